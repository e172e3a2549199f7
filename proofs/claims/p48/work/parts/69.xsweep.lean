section
variable {G : GT} {I L : MI} {R : MR} {p h na nb nk : Nat}
/-- the fan, over the steps of a joint state -/
theorem s_X6_fan2 {J N K : MI} {n t j s0 s1 s2 : Nat} (hW : isW R p na nb nk) (hph : R p 0 = some h) (hh : isH R h) (hQ0 : PQ J p h n) (ht : (t : Int) < J h 3) (hmv : ∀ v : Nat, v < 3 → (∀ x : Nat, (x : Int) ≤ stW J p h v → J 21 (13 * (v : Int) + (x : Int)) = ((28 * v + mvS J p h (t : Int) v x : Nat) : Int)) ∧ ∀ x : Nat, (x : Int) < stW J p h v → PL J (28 * v + mvS J p h (t : Int) v x) (mvA J p h (t : Int) v x))
  (hmn : J 19 11 = (t : Int)) (hmd : J 19 10 = 0 ∨ J 19 10 = 1 ∨ J 19 10 = 2 ∨ J 19 10 = 3 ∨ J 19 10 = 4 ∨ J 19 10 = 5) (hfo : rI (J 19 12)) (hm : J 19 10 = 2 → (0 ≤ J 19 13 ∧ J 19 13 ≤ 99) ∧ 0 ≤ J 19 14 ∧ J 19 14 ≤ 99)
  (hV : ∀ x : Nat, x < n → (J 19 10 ≠ 1 → 0 ≤ L na (x : Int) ∧ L na (x : Int) ≤ 1152921504606846976) ∧ rL (L na (x : Int))) (hg : lkV J L nb n (N, K)) (h0 : s0 < nW J p h 0) (h1 : s1 < nW J p h 1) (h2 : s2 < nW J p h 2) (hj : j = ix3 (nW J p h 0) (nW J p h 1) s0 s1 s2) :
  Sp G mtX6_fan [mr 19, mi (j : Int), mi (s0 : Int), mi (s1 : Int), mi (s2 : Int)] shX N K R (qv (fun I' L' R' => lkV J L nb n (I', L') ∧ (I', L') = fo (lkT p h na nb j) (N, K) (stX J p h (t : Int) j) ∧ R = R')) := by
  have hp1 := hW.2.1.1
  have hh1 := hh.1
  have je : ∀ c i, c < 25 ∨ 28 < c → N c i = J c i := hg.1
  have w0 := nW_r hQ0 0
  have w1 := nW_r hQ0 1
  have w2 := nW_r hQ0 2
  have hl := hQ0.2.2.2.2.2.1
  have hjn : j < n := by rw [hj, (PQ_n hQ0).1]; exact ix3_lt h0 h1 h2
  have hn2 := (PQ_n hQ0).2
  obtain ⟨x0, x1, x2⟩ := ix3_at (c := s2) h0 h1
  have est : stX J p h (t : Int) j = fnL (J p 2) (z_and (J (p + 1) (t : Int)) (J p 2)) (mvA J p h (t : Int) 0 s0) (mvA J p h (t : Int) 1 s1) (mvA J p h (t : Int) 2 s2) := by
    unfold stX
    rw [hj, x0, x1, x2]
  rw [est]
  have r0 := mvS_28 (t := (t : Int)) (w := 0) hQ0.2.1 hQ0.2.2.1 hQ0.2.2.2.1 (s0 + 1) (by omega)
  have r1 := mvS_28 (t := (t : Int)) (w := 1) hQ0.2.1 hQ0.2.2.1 hQ0.2.2.2.1 (s1 + 1) (by omega)
  have r2 := mvS_28 (t := (t : Int)) (w := 2) hQ0.2.1 hQ0.2.2.1 hQ0.2.2.2.1 (s2 + 1) (by omega)
  have m0 := hmv 0 (by omega)
  have m1 := hmv 1 (by omega)
  have m2 := hmv 2 (by omega)
  have a0 := m0.1 s0 (by omega)
  have b0 := m0.1 (s0 + 1) (by omega)
  have a1 := m1.1 s1 (by omega)
  have b1 := m1.1 (s1 + 1) (by omega)
  have a2 := m2.1 s2 (by omega)
  have b2 := m2.1 (s2 + 1) (by omega)
  have z0 : mvS J p h (t : Int) 0 (s0 + 1) = mvS J p h (t : Int) 0 s0 + (mvA J p h (t : Int) 0 s0).length := rfl
  have z1 : mvS J p h (t : Int) 1 (s1 + 1) = mvS J p h (t : Int) 1 s1 + (mvA J p h (t : Int) 1 s1).length := rfl
  have z2 : mvS J p h (t : Int) 2 (s2 + 1) = mvS J p h (t : Int) 2 s2 + (mvA J p h (t : Int) 2 s2).length := rfl
  have pl : ∀ b (l : MVL), PL J b l → PL N b l := fun b l q i x hx => by
    rw [je 22 _ (by omega), je 23 _ (by omega)]
    exact q i x hx
  have f2 : N p 2 = J p 2 := je p _ (by omega)
  have f11 : N 19 11 = (t : Int) := (je 19 _ (by omega)).trans hmn
  have f1 : N (p + 1) (N 19 11) = J (p + 1) (t : Int) := by rw [f11]; exact je (p + 1) _ (by omega)
  refine s_X6_fan (b0 := mvS J p h (t : Int) 0 s0) (b1 := 28 + mvS J p h (t : Int) 1 s1) (b2 := 56 + mvS J p h (t : Int) 2 s2) (Inv := lkV J L nb n) (T := lkT p h na nb j) hW (by omega) (by omega) (by omega) (by omega) (by omega) (by omega) (by omega)
    ?_ ?_ (pl _ _ ?_) ?_ ?_ (pl _ _ ?_) ?_ ?_ (pl _ _ ?_) f2 (by rw [f1]) (z_and_r _ _) (fun M q => ?_) hg (fun M q a ha b hb c hc _ => ?_)
  · rw [je 21 _ (by omega), show (s0 : Int) = 13 * ((0 : Nat) : Int) + (s0 : Int) by omega, a0]; omega
  · rw [je 21 _ (by omega), show (s0 : Int) + 1 = 13 * ((0 : Nat) : Int) + ((s0 + 1 : Nat) : Int) by omega, b0, z0]; omega
  · have q := m0.2 s0 (by omega)
    rw [show 28 * 0 + mvS J p h (t : Int) 0 s0 = mvS J p h (t : Int) 0 s0 by omega] at q
    exact q
  · rw [je 21 _ (by omega), show 13 + (s1 : Int) = 13 * ((1 : Nat) : Int) + (s1 : Int) by omega, a1]
  · rw [je 21 _ (by omega), show 13 + (s1 : Int) + 1 = 13 * ((1 : Nat) : Int) + ((s1 + 1 : Nat) : Int) by omega, b1, z1]; omega
  · exact m1.2 s1 (by omega)
  · rw [je 21 _ (by omega), show 26 + (s2 : Int) = 13 * ((2 : Nat) : Int) + (s2 : Int) by omega, a2]
  · rw [je 21 _ (by omega), show 26 + (s2 : Int) + 1 = 13 * ((2 : Nat) : Int) + ((s2 + 1 : Nat) : Int) by omega, b2, z2]; omega
  · exact m2.2 s2 (by omega)
  · intro c i hc
    rw [q.1 c i hc, je c i hc]
  · obtain ⟨q0, q1, q2, l0, l1, l2, ek, hk⟩ := stp_k hQ0 h0 h1 h2 ha hb hc
    obtain ⟨-, -, -, ra⟩ := mvA_in hQ0 h0 ha
    obtain ⟨-, -, -, rb⟩ := mvA_in hQ0 h1 hb
    obtain ⟨-, -, -, rc⟩ := mvA_in hQ0 h2 hc
    obtain ⟨k, hkk⟩ : ∃ k, k = ix3 (nW J p h 0) (nW J p h 1) q0 q1 q2 := ⟨_, rfl⟩
    rw [← hkk] at ek hk
    rw [ek]
    have hne : na ≠ nb := hW.2.2.2.2.2.2.2.2.2.1
    refine ⟨lkV_st hne hmd hm hV hjn ⟨by show (0 : Int) ≤ ((k : Nat) : Int); omega, by show ((k : Nat) : Int) < (n : Int); omega⟩ q, ?_⟩
    obtain ⟨N2, K2⟩ := M
    obtain ⟨g1, g2, g3⟩ := q
    have g1' : ∀ c i, c < 25 ∨ 28 < c → N2 c i = J c i := g1
    have g2' : ∀ c i, c ≠ nb → K2 c i = L c i := g2
    have g3' : ∀ x : Nat, x < n → (J 19 10 ≠ 1 → 0 ≤ K2 nb (x : Int) ∧ K2 nb (x : Int) ≤ 2305843009213693952) ∧ rL (K2 nb (x : Int)) := g3
    have e10 : N2 19 10 = J 19 10 := g1' _ _ (by omega)
    have e11 : N2 19 11 = (t : Int) := (g1' _ _ (by omega)).trans hmn
    have e12 : N2 19 12 = J 19 12 := g1' _ _ (by omega)
    have e13 : N2 19 13 = J 19 13 := g1' _ _ (by omega)
    have e14 : N2 19 14 = J 19 14 := g1' _ _ (by omega)
    have eh4 : N2 h 4 = J h 4 := g1' _ _ (by omega)
    have ep1 : N2 (p + 1) (N2 19 11) = J (p + 1) (t : Int) := by rw [e11]; exact g1' _ _ (by omega)
    have vj := hV j hjn
    have vk := hV k hk
    have wj := g3' j hjn
    have wk := g3' k hk
    have ej : K2 na (j : Int) = L na (j : Int) := g2' _ _ hne
    have ekk : K2 na (k : Int) = L na (k : Int) := g2' _ _ hne
    show Sp G mtX6_link [mr 19, mi (j : Int), mi (k : Int), mi a.2, mi b.2, mi c.2] shX N2 K2 R _
    have sp := s_X6_link (G := G) (I := N2) (L := K2) (R := R) (p := p) (h := h) (na := na) (nb := nb) (nk := nk) (j := j) (k := k) (d0 := a.2) (d1 := b.2) (d2 := c.2) hW hph hh (by omega) (by omega) (by rw [e10]; exact hmd) (by omega) (by rw [e12]; exact hfo) (by omega) (by omega) (by omega)
      (fun q => by rw [e10] at q; rw [ej, ekk]; have x1 := vj.1 q; have x2 := vk.1 q; exact ⟨by omega, by omega, wj.1 q, wk.1 q⟩)
      (fun q => by rw [e10] at q; rw [eh4, ep1, e13, e14]; exact ⟨hQ0.2.2.2.2.2.2.1, hQ0.2.2.2.2.2.2.2 t ht, hm q⟩)
    have post : (qv (fun I' L' R' => I' = lkI N2 K2 na k a.2 b.2 c.2 ∧ L' = lkL N2 K2 p h na nb j k a.2 b.2 c.2 ∧ R = R')) = (qv (fun I' L' R' => (I', L') = lkT p h na nb j ((k : Int), a.2, b.2, c.2) (N2, K2) ∧ R = R')) := by
      congr 1
      funext I' L' R'
      show (I' = lkI N2 K2 na k a.2 b.2 c.2 ∧ L' = lkL N2 K2 p h na nb j k a.2 b.2 c.2 ∧ R = R') = ((I', L') = (lkI N2 K2 na (k : Int).toNat a.2 b.2 c.2, lkL N2 K2 p h na nb j (k : Int).toNat a.2 b.2 c.2) ∧ R = R')
      rw [Int.toNat_natCast, Prod.mk.injEq, and_assoc]
    rw [post] at sp
    exact sp

set_option maxHeartbeats 2000000 in
theorem s_X6_sweep {n t : Nat} (hW : isW R p na nb nk) (hph : R p 0 = some h) (hh : isH R h) (hQ0 : PQ I p h n) (ht : (t : Int) < I h 3) (hmd : I 19 10 = 0 ∨ I 19 10 = 1 ∨ I 19 10 = 2 ∨ I 19 10 = 3 ∨ I 19 10 = 4 ∨ I 19 10 = 5) (hfo : rI (I 19 12)) (hsb : rI (I 19 15)) (hm : I 19 10 = 2 → (0 ≤ I 19 13 ∧ I 19 13 ≤ 99) ∧ 0 ≤ I 19 14 ∧ I 19 14 ≤ 99) (hV : ∀ x : Nat, x < n → (I 19 10 ≠ 1 → 0 ≤ L na (x : Int) ∧ L na (x : Int) ≤ 1152921504606846976) ∧ rL (L na (x : Int))) : Sp G mtX6_sweep [mr 19, mi ↑t] shX I L R (qv (fun I' L' R' => ∃ J, MVs (m_up I 19 11 (t : Int)) p h (t : Int) 3 0 J ∧ I' = (swX J L p h na nb t (if I 19 10 = 4 ∨ I 19 10 = 5 then (1 : Int) else 0) (J, mapL L nb n (fun _ _ => 0)) n).1 ∧ L' = (if (if I 19 10 = 4 ∨ I 19 10 = 5 then (1 : Int) else 0) = 0 then mapL (swX J L p h na nb t (if I 19 10 = 4 ∨ I 19 10 = 5 then (1 : Int) else 0) (J, mapL L nb n (fun _ _ => 0)) n).2 nb n (ftV J L p (t + 1)) else (swX J L p h na nb t (if I 19 10 = 4 ∨ I 19 10 = 5 then (1 : Int) else 0) (J, mapL L nb n (fun _ _ => 0)) n).2) ∧ R' = m_up (m_up R 19 6 (some nb)) 19 7 (some na))) := by
  refine Sp.of pnX6_sweep rfl ?_
  show Rn G mtX6_sweep _ 0 [(0, mr 19), (1, mi ↑t)] [] shX I L R
  generalize hQ : (qv (fun I' L' R' => ∃ J, MVs (m_up I 19 11 (t : Int)) p h (t : Int) 3 0 J ∧ I' = (swX J L p h na nb t (if I 19 10 = 4 ∨ I 19 10 = 5 then (1 : Int) else 0) (J, mapL L nb n (fun _ _ => 0)) n).1 ∧ L' = (if (if I 19 10 = 4 ∨ I 19 10 = 5 then (1 : Int) else 0) = 0 then mapL (swX J L p h na nb t (if I 19 10 = 4 ∨ I 19 10 = 5 then (1 : Int) else 0) (J, mapL L nb n (fun _ _ => 0)) n).2 nb n (ftV J L p (t + 1)) else (swX J L p h na nb t (if I 19 10 = 4 ∨ I 19 10 = 5 then (1 : Int) else 0) (J, mapL L nb n (fun _ _ => 0)) n).2) ∧ R' = m_up (m_up R 19 6 (some nb)) 19 7 (some na))) = Q
  have hp1 := hW.2.1.1
  have hh1 := hh.1
  have hna := hW.2.2.2.2.2.2.1
  have hnb := hW.2.2.2.2.2.2.2.1
  have hne : na ≠ nb := hW.2.2.2.2.2.2.2.2.2.1
  have hl := hQ0.2.2.2.2.2.1
  obtain ⟨I2, hI2⟩ : ∃ I2, I2 = (m_up I 19 11 (t : Int)) := ⟨_, rfl⟩
  have ie : ∀ c i, c ≠ 19 → I2 c i = I c i := fun c i q => by rw [hI2, m_up_ne q]
  have s2 := PQ_c (J := I2) (by omega) (by omega) (fun c i q => ie c i (by omega)) hQ0
  have q2 := s2.2.2.2.1
  have lsp : Sp G mtX1_list [mr 20, mr p, mi (t : Int)] shX I2 L R (qv (fun I' L' R' => MVs I2 p h (t : Int) 3 0 I' ∧ L = L' ∧ R = R')) := s_X1_list hW.1 hW.2.1 hh hph s2.2.1 s2.2.2.1 q2 s2.1 (by omega)
  rw [← hI2] at hQ
  have main : ∀ J, MVs I2 p h (t : Int) 3 0 J → Rn G mtX6_sweep Q 17 [(0, mr 19), (1, mi (t : Int))] [] shX J L R := by
    intro J hMV
    have je : ∀ c i, 24 ≤ c → J c i = I c i := fun c i q => (hMV.1 c i q).trans (ie c i (by omega))
    have j19 : ∀ i, i ≠ 11 → J 19 i = I 19 i := fun i q => (hMV.2.1 19 i (by omega)).trans (by rw [hI2, m_up_nj q])
    have j11 : J 19 11 = (t : Int) := (hMV.2.1 19 11 (by omega)).trans (by rw [hI2, m_up_eq])
    have s := PQ_c (J := J) (by omega) (by omega) je hQ0
    have jh3 : J h 3 = I h 3 := je h 3 (by omega)
    have jhl := s.2.2.2.2.2.1
    have mS : ∀ w x, mvS J p h (t : Int) w x = mvS I2 p h (t : Int) w x := fun w x => mvS_c (by omega) (by omega) hMV.1 x
    have mA : ∀ w x, mvA J p h (t : Int) w x = mvA I2 p h (t : Int) w x := fun w x => mvA_c (by omega) (by omega) hMV.1 x
    have eS : ∀ w, stW J p h w = stW I2 p h w := fun w => stW_c (hMV.1 _ _ (by omega)) (hMV.1 _ _ (by omega)) (fun i => hMV.1 _ _ (by omega)) w
    have hmv : ∀ v : Nat, v < 3 → (∀ x : Nat, (x : Int) ≤ stW J p h v → J 21 (13 * (v : Int) + (x : Int)) = ((28 * v + mvS J p h (t : Int) v x : Nat) : Int)) ∧ ∀ x : Nat, (x : Int) < stW J p h v → PL J (28 * v + mvS J p h (t : Int) v x) (mvA J p h (t : Int) v x) := fun v hv => by
      rw [eS]
      exact ⟨fun x hx => by rw [mS]; exact (hMV.2.2.1 v hv).1 x hx, fun x hx => by rw [mS, mA]; exact (hMV.2.2.1 v hv).2 x hx⟩
    have hmd2 : J 19 10 = 0 ∨ J 19 10 = 1 ∨ J 19 10 = 2 ∨ J 19 10 = 3 ∨ J 19 10 = 4 ∨ J 19 10 = 5 := by rw [j19 10 (by decide)]; exact hmd
    have hfo2 : rI (J 19 12) := by rw [j19 12 (by decide)]; exact hfo
    have hsb2 : rI (J 19 15) := by rw [j19 15 (by decide)]; exact hsb
    have hm2 : J 19 10 = 2 → (0 ≤ J 19 13 ∧ J 19 13 ≤ 99) ∧ 0 ≤ J 19 14 ∧ J 19 14 ≤ 99 := by rw [j19 10 (by decide), j19 13 (by decide), j19 14 (by decide)]; exact hm
    have hV2 : ∀ x : Nat, x < n → (J 19 10 ≠ 1 → 0 ≤ L na (x : Int) ∧ L na (x : Int) ≤ 1152921504606846976) ∧ rL (L na (x : Int)) := by rw [j19 10 (by decide)]; exact hV
    rw [← j19 10 (by decide)] at hQ
    obtain ⟨hn, hn2⟩ := PQ_n s
    have hn3 : J p 3 = (n : Int) := s.2.2.2.2.1
    have w0 := nW_r s 0
    have w1 := nW_r s 1
    have w2 := nW_r s 2
    have p50 : J (p + 5) 0 = stW J p h 0 := (s.1.2.1 0 (by omega)).1
    have p51 : J (p + 5) 1 = stW J p h 1 := (s.1.2.1 1 (by omega)).1
    have p52 : J (p + 5) 2 = stW J p h 2 := (s.1.2.1 2 (by omega)).1
    have jp : ∀ N : MI, (∀ c i, c < 25 ∨ 28 < c → N c i = J c i) → N (p + 5) 0 = ((nW J p h 0 : Nat) : Int) ∧ N (p + 5) 1 = ((nW J p h 1 : Nat) : Int) ∧ N (p + 5) 2 = ((nW J p h 2 : Nat) : Int) ∧ N p 3 = (n : Int) ∧ N 19 10 = J 19 10 := fun N e => by
      rw [e _ _ (by omega), e _ _ (by omega), e _ _ (by omega), e _ _ (by omega), e _ _ (by omega)]
      exact ⟨by omega, by omega, by omega, hn3, rfl⟩
    have fan := fun (N K : MI) (hg : lkV J L nb n (N, K)) (s0 s1 s2 : Nat) (h0 : s0 < nW J p h 0) (h1 : s1 < nW J p h 1) (h2 : s2 < nW J p h 2) => s_X6_fan2 (G := G) (nk := nk) hW hph hh s (by omega) hmv j11 hmd2 hfo2 hm2 hV2 hg h0 h1 h2 rfl
    have ixl : ∀ a b c : Nat, a < nW J p h 0 → b < nW J p h 1 → c < nW J p h 2 → ix3 (nW J p h 0) (nW J p h 1) a b c < n := fun a b c ha hb hc => by rw [hn]; exact ix3_lt ha hb hc
    obtain ⟨bk, hbk⟩ : ∃ bk : Int, bk = (if J 19 10 = 4 ∨ J 19 10 = 5 then (1 : Int) else 0) := ⟨_, rfl⟩
    have hbr : bk = 0 ∨ bk = 1 := by rw [hbk]; split <;> omega
    rw [← hbk] at hQ
    obtain ⟨S, hS⟩ : ∃ S : Nat → MI × MI, S = swX J L p h na nb t bk (J, mapL L nb n (fun _ _ => 0)) := ⟨_, rfl⟩
    have S0 : S 0 = (J, mapL L nb n (fun _ _ => 0)) := by rw [hS]; rfl
    have Sy : ∀ j : Nat, ((bk = 0 ∧ L na (j : Int) ≠ 0) ∨ (bk ≠ 0 ∧ inX L j t = true)) → S (j + 1) = fo (lkT p h na nb j) (S j) (stX J p h (t : Int) j) := fun j q => by rw [hS]; exact if_pos q
    have Sn : ∀ j : Nat, ¬ ((bk = 0 ∧ L na (j : Int) ≠ 0) ∨ (bk ≠ 0 ∧ inX L j t = true)) → S (j + 1) = S j := fun j q => by rw [hS]; exact if_neg q
    have g0 : lkV J L nb n (J, mapL L nb n (fun _ _ => 0)) := ⟨fun _ _ _ => rfl, fun c i q => (mapL_ne (L := L) (a := nb) (n := n) (f := fun _ _ => 0) q i : mapL L nb n (fun _ _ => 0) c i = L c i), fun x hx => by
      show (J 19 10 ≠ 1 → 0 ≤ mapL L nb n (fun _ _ => 0) nb (x : Int) ∧ mapL L nb n (fun _ _ => 0) nb (x : Int) ≤ 2305843009213693952) ∧ rL (mapL L nb n (fun _ _ => 0) nb (x : Int))
      rw [mapL_in hx]
      omega⟩
    have ex : ∀ N K, (N, K) = S n → ∀ K2, K2 = (if bk = 0 then mapL K nb n (ftV J L p (t + 1)) else K) → Q none N K2 (m_up (m_up R 19 6 (some nb)) 19 7 (some na)) := by
      intro N K e K2 e2
      rw [← hQ]
      refine ⟨rfl, J, hMV, ?_, ?_, rfl⟩
      · rw [← hS, ← e]
      · rw [← hS, ← e]; exact e2
    clear hQ
    generalize nW J p h 0 = n0 at *
    generalize nW J p h 1 = n1 at *
    generalize nW J p h 2 = n2 at *
    have fin : ∀ N K, (N, K) = S n → ∀ K2, K2 = (if bk = 0 then mapL K nb n (ftV J L p (t + 1)) else K) → ∀ x y : Int, Rn G mtX6_sweep Q 234 [(0, mr 19), (1, mi (t : Int)), (2, mi bk), (3, mi y), (4, mi x)] [] shX N K2 R := by
      intro N K e K2 e2 x y
      refine x_aload_n dX6_sweep_234 0 rfl rfl ?_
      refine x_getR dX6_sweep_235 flX6_35 rfl rfl hW.2.2.2.1 ?_
      refine x_astore (lv' := [(0, _), (1, _), (2, _), (3, _), (4, _)]) dX6_sweep_238 rfl rfl ?_
      refine x_aload_n dX6_sweep_240 0 rfl rfl ?_
      refine x_aload_n dX6_sweep_241 0 rfl rfl ?_
      refine x_getR dX6_sweep_242 flX6_38 rfl rfl hW.2.2.2.2.1 ?_
      refine x_putR dX6_sweep_245 flX6_35 rfl rfl rfl ?_
      refine x_aload_n dX6_sweep_248 0 rfl rfl ?_
      refine x_aload dX6_sweep_249 4 rfl ?_
      refine x_putR dX6_sweep_251 flX6_38 rfl rfl rfl ?_
      refine x_vret dX6_sweep_254 rfl ?_
      exact ex N K e K2 e2
    have fl : ∀ N K, lkV J L nb n (N, K) → (N, K) = S n → ∀ y : Int, Rn G mtX6_sweep Q 180 [(0, mr 19), (1, mi (t : Int)), (2, mi bk), (3, mi y), (4, mi 0)] [] shX N K R := by
      intro N K g e y
      have ne : ∀ c i, c < 25 ∨ 28 < c → N c i = J c i := g.1
      have ke : ∀ c i, c ≠ nb → K c i = L c i := g.2.1
      have kv : ∀ x : Nat, x < n → (J 19 10 ≠ 1 → 0 ≤ K nb (x : Int) ∧ K nb (x : Int) ≤ 2305843009213693952) ∧ rL (K nb (x : Int)) := g.2.2
      have x3 : N p 3 = (n : Int) := (ne _ _ (by omega)).trans hn3
      have x15 : N 19 15 = J 19 15 := ne _ _ (by omega)
      rcases hbr with hb | hb
      · have lk : ∀ k : Nat, k ≤ n → Rn G mtX6_sweep Q 180 [(0, mr 19), (1, mi (t : Int)), (2, mi bk), (3, mi y), (4, mi (k : Int))] [] shX N (mapL K nb k (ftV J L p (t + 1))) R := by
          refine lpn n (fun k hk ih => ?_) ?_
          · have hk0 : mapL K nb k (ftV J L p (t + 1)) nb (k : Int) = K nb (k : Int) := mapL_out (by omega)
            have hkr := (kv k hk).2
            have hsy : syX N (mapL K nb k (ftV J L p (t + 1))) p k (t + 1) = syX J L p k (t + 1) := by
              rw [syX_i (J := J) (by omega) ne, syX_c (L := L) (fun i => by rw [mapL_ne (by omega)]; exact ke 24 i (by omega))]
            have hst : Sp G mtX6_stays [mr 19, mi (k : Int), mi ((t : Int) + 1)] shX N (mapL K nb k (ftV J L p (t + 1))) R (qi (pu (b01 (syX N (mapL K nb k (ftV J L p (t + 1))) p k (t + 1) = true)) N (mapL K nb k (ftV J L p (t + 1))) R)) := s_X6_stays (t := t + 1) hW (by omega) (by omega) (by omega)
            refine x_iload_n dX6_sweep_180 2 rfl rfl ?_
            refine x_if_ne (tgt := 234) dX6_sweep_181 (by decide) (by omega) (fun h181 => ?_) (fun h181 => ?_)
            · exfalso; omega
            · refine x_iload dX6_sweep_184 4 rfl ?_
              refine x_aload_n dX6_sweep_186 0 rfl rfl ?_
              refine x_getR dX6_sweep_187 flX6_54 rfl rfl hW.2.2.1 ?_
              refine x_getI dX6_sweep_190 flX6_85 (shP0 hW.2.1) rfl ?_
              rw [x3]
              refine x_ic_ge (tgt := 234) dX6_sweep_193 (by decide) (by omega) (fun h193 => ?_) (fun h193 => ?_)
              · exfalso; omega
              · refine x_aload_n dX6_sweep_196 0 rfl rfl ?_
                refine x_getR dX6_sweep_197 flX6_38 rfl rfl hW.2.2.2.2.1 ?_
                refine x_iload dX6_sweep_200 4 rfl ?_
                refine x_lald dX6_sweep_202 (shW hW.2.2.2.2.2.2.2.1) (by omega) ?_
                rw [hk0]
                refine x_lconst 0 dX6_sweep_203 rfl ?_
                refine x_lc_eq (tgt := 228) dX6_sweep_204 dX6_sweep_205 (by decide) (by omega) (fun h204 => ?_) (fun h204 => ?_)
                · refine x_iinc (lv' := [(0, _), (1, _), (2, _), (3, _), (4, _)]) dX6_sweep_228 4 rfl rfl rfl ?_
                  refine x_goto (tgt := 180) dX6_sweep_231 (by decide) ?_
                  first
                  | (have hs := h217
                     first
                     | (have hy : syX J L p k (t + 1) = true := hs
                        rw [mapL_same K nb k (ftV J L p (t + 1)) (by unfold ftV; rw [if_neg (fun q => q.2 hy)])]
                        exact ih)
                     | (have hy : ¬ syX J L p k (t + 1) = true := hs
                        have hz : ¬ K nb (k : Int) = 0 := h204
                        have hu := mapL_up K nb k (ftV J L p (t + 1))
                        rw [show ftV J L p (t + 1) k (K nb (k : Int)) = 0 by unfold ftV; rw [if_pos ⟨hz, hy⟩]] at hu
                        rw [hu]
                        exact ih))
                  | (have hz : K nb (k : Int) = 0 := h204
                     rw [mapL_same K nb k (ftV J L p (t + 1)) (by unfold ftV; rw [if_neg (fun q => q.1 hz)])]
                     exact ih)
                · refine x_aload_n dX6_sweep_208 0 rfl rfl ?_
                  refine x_iload dX6_sweep_209 4 rfl ?_
                  refine x_iload_n dX6_sweep_211 1 rfl rfl ?_
                  refine x_iconst dX6_sweep_212 ?_
                  refine x_iadd dX6_sweep_213 ?_
                  refine x_callVi (as := [_, _]) dX6_sweep_214 lvX6_163 rfl rfl rfl rfl rfl rfl rfl ⟨rfl, rfl⟩ (hst) (fun z214 I214 L214 R214 hq214 => ?_)
                  obtain ⟨rfl, rfl, rfl, rfl⟩ := hq214
                  rw [hsy]
                  refine y_ifb_ne (tgt := 228) dX6_sweep_217 (by decide) (fun h217 => ?_) (fun h217 => ?_)
                  · refine x_iinc (lv' := [(0, _), (1, _), (2, _), (3, _), (4, _)]) dX6_sweep_228 4 rfl rfl rfl ?_
                    refine x_goto (tgt := 180) dX6_sweep_231 (by decide) ?_
                    first
                    | (have hs := h217
                       first
                       | (have hy : syX J L p k (t + 1) = true := hs
                          rw [mapL_same K nb k (ftV J L p (t + 1)) (by unfold ftV; rw [if_neg (fun q => q.2 hy)])]
                          exact ih)
                       | (have hy : ¬ syX J L p k (t + 1) = true := hs
                          have hz : ¬ K nb (k : Int) = 0 := h204
                          have hu := mapL_up K nb k (ftV J L p (t + 1))
                          rw [show ftV J L p (t + 1) k (K nb (k : Int)) = 0 by unfold ftV; rw [if_pos ⟨hz, hy⟩]] at hu
                          rw [hu]
                          exact ih))
                    | (have hz : K nb (k : Int) = 0 := h204
                       rw [mapL_same K nb k (ftV J L p (t + 1)) (by unfold ftV; rw [if_neg (fun q => q.1 hz)])]
                       exact ih)
                  · refine x_aload_n dX6_sweep_220 0 rfl rfl ?_
                    refine x_getR dX6_sweep_221 flX6_38 rfl rfl hW.2.2.2.2.1 ?_
                    refine x_iload dX6_sweep_224 4 rfl ?_
                    refine x_lconst 0 dX6_sweep_226 rfl ?_
                    refine x_last dX6_sweep_227 (shW hW.2.2.2.2.2.2.2.1) (by omega) ?_
                    refine x_iinc (lv' := [(0, _), (1, _), (2, _), (3, _), (4, _)]) dX6_sweep_228 4 rfl rfl rfl ?_
                    refine x_goto (tgt := 180) dX6_sweep_231 (by decide) ?_
                    first
                    | (have hs := h217
                       first
                       | (have hy : syX J L p k (t + 1) = true := hs
                          rw [mapL_same K nb k (ftV J L p (t + 1)) (by unfold ftV; rw [if_neg (fun q => q.2 hy)])]
                          exact ih)
                       | (have hy : ¬ syX J L p k (t + 1) = true := hs
                          have hz : ¬ K nb (k : Int) = 0 := h204
                          have hu := mapL_up K nb k (ftV J L p (t + 1))
                          rw [show ftV J L p (t + 1) k (K nb (k : Int)) = 0 by unfold ftV; rw [if_pos ⟨hz, hy⟩]] at hu
                          rw [hu]
                          exact ih))
                    | (have hz : K nb (k : Int) = 0 := h204
                       rw [mapL_same K nb k (ftV J L p (t + 1)) (by unfold ftV; rw [if_neg (fun q => q.1 hz)])]
                       exact ih)
          · refine x_iload_n dX6_sweep_180 2 rfl rfl ?_
            refine x_if_ne (tgt := 234) dX6_sweep_181 (by decide) (by omega) (fun h181 => ?_) (fun h181 => ?_)
            · first | (exfalso; omega) | exact fin N K e _ (by rw [if_pos hb]) _ _
            · refine x_iload dX6_sweep_184 4 rfl ?_
              refine x_aload_n dX6_sweep_186 0 rfl rfl ?_
              refine x_getR dX6_sweep_187 flX6_54 rfl rfl hW.2.2.1 ?_
              refine x_getI dX6_sweep_190 flX6_85 (shP0 hW.2.1) rfl ?_
              rw [x3]
              refine x_ic_ge (tgt := 234) dX6_sweep_193 (by decide) (by omega) (fun h193 => ?_) (fun h193 => ?_)
              · first | (exfalso; omega) | exact fin N K e _ (by rw [if_pos hb]) _ _
              · exfalso; omega
        have z := lk 0 (by omega)
        rw [mapL_0] at z
        exact z
      · refine x_iload_n dX6_sweep_180 2 rfl rfl ?_
        refine x_if_ne (tgt := 234) dX6_sweep_181 (by decide) (by omega) (fun h181 => ?_) (fun h181 => ?_)
        · exact fin N K e K (by rw [if_neg (by omega)]) _ _
        · exfalso; omega
    have l2 : ∀ s2 : Nat, s2 ≤ n2 → ∀ N K, lkV J L nb n (N, K) → (N, K) = S (ix3 n0 n1 0 0 s2) → Rn G mtX6_sweep Q 70 [(0, mr 19), (1, mi (t : Int)), (2, mi bk), (3, mi ((ix3 n0 n1 0 0 s2 : Nat) : Int)), (4, mi (s2 : Int))] [] shX N K R := by
      refine lpn n2 (fun s2 hs2 ih2 => ?_) ?_
      · intro N K g e
        obtain ⟨x50, x51, x52, x3, x10⟩ := jp N g.1
        have l1 : ∀ s1 : Nat, s1 ≤ n1 → ∀ N K, lkV J L nb n (N, K) → (N, K) = S (ix3 n0 n1 0 s1 s2) → Rn G mtX6_sweep Q 87 [(0, mr 19), (1, mi (t : Int)), (2, mi bk), (3, mi ((ix3 n0 n1 0 s1 s2 : Nat) : Int)), (4, mi (s2 : Int)), (5, mi (s1 : Int))] [] shX N K R := by
          refine lpn n1 (fun s1 hs1 ih1 => ?_) ?_
          · intro N K g e
            obtain ⟨x50, x51, x52, x3, x10⟩ := jp N g.1
            have l0 : ∀ s0 : Nat, s0 ≤ n0 → ∀ N K, lkV J L nb n (N, K) → (N, K) = S (ix3 n0 n1 s0 s1 s2) → Rn G mtX6_sweep Q 104 [(0, mr 19), (1, mi (t : Int)), (2, mi bk), (3, mi ((ix3 n0 n1 s0 s1 s2 : Nat) : Int)), (4, mi (s2 : Int)), (5, mi (s1 : Int)), (6, mi (s0 : Int))] [] shX N K R := by
              refine lpn n0 (fun s0 hs0 ih0 => ?_) ?_
              · intro N K g e
                obtain ⟨x50, x51, x52, x3, x10⟩ := jp N g.1
                have ke : ∀ c i, c ≠ nb → K c i = L c i := g.2.1
                have hx := ixl s0 s1 s2 hs0 hs1 hs2
                have ixs : ix3 n0 n1 (s0 + 1) s1 s2 = ix3 n0 n1 s0 s1 s2 + 1 := by unfold ix3; omega
                have fn := fan N K g s0 s1 s2 hs0 hs1 hs2
                obtain ⟨j, hj⟩ : ∃ j, j = ix3 n0 n1 s0 s1 s2 := ⟨_, rfl⟩
                rw [ixs] at ih0
                rw [← hj] at hx ih0 e fn ⊢
                have hin : inX K j t = inX L j t := inX_c (fun i => ke 24 i (by omega)) j t
                have hna1 : K na (j : Int) = L na (j : Int) := ke _ _ hne
                have hvj := (hV2 j hx).2
                refine x_iload dX6_sweep_104 6 rfl ?_
                refine x_aload_n dX6_sweep_106 0 rfl rfl ?_
                refine x_getR dX6_sweep_107 flX6_54 rfl rfl hW.2.2.1 ?_
                refine x_getR dX6_sweep_110 flX6_182 (shP0 hW.2.1) rfl hW.2.1.2.2.2.2.2.1 ?_
                refine x_iconst dX6_sweep_113 ?_
                refine x_iald dX6_sweep_114 (shP5 hW.2.1) (by omega) ?_
                rw [x50]
                refine x_ic_ge (tgt := 165) dX6_sweep_115 (by decide) (by omega) (fun h115 => ?_) (fun h115 => ?_)
                · exfalso; omega
                · refine x_iload_n dX6_sweep_118 2 rfl rfl ?_
                  refine x_if_eq (tgt := 134) dX6_sweep_119 (by decide) (by omega) (fun h119 => ?_) (fun h119 => ?_)
                  · refine x_aload_n dX6_sweep_134 0 rfl rfl ?_
                    refine x_getR dX6_sweep_135 flX6_35 rfl rfl hW.2.2.2.1 ?_
                    refine x_iload_n dX6_sweep_138 3 rfl rfl ?_
                    refine x_lald dX6_sweep_139 (shW hW.2.2.2.2.2.2.1) (by omega) ?_
                    rw [hna1]
                    refine x_lconst 0 dX6_sweep_140 rfl ?_
                    refine x_lc_eq (tgt := 156) dX6_sweep_141 dX6_sweep_142 (by decide) (by omega) (fun h141 => ?_) (fun h141 => ?_)
                    · refine x_iinc (lv' := [(0, _), (1, _), (2, _), (3, _), (4, _), (5, _), (6, _)]) dX6_sweep_156 3 rfl rfl rfl ?_
                      refine x_iinc (lv' := [(0, _), (1, _), (2, _), (3, _), (4, _), (5, _), (6, _)]) dX6_sweep_159 6 rfl rfl rfl ?_
                      refine x_goto (tgt := 104) dX6_sweep_162 (by decide) ?_
                      first
                      | (have e5 := e153
                         have ha : (bk = 0 ∧ L na (j : Int) ≠ 0) ∨ (bk ≠ 0 ∧ inX L j t = true) := by first | exact Or.inl ⟨by assumption, by assumption⟩ | exact Or.inr ⟨by assumption, by assumption⟩
                         exact ih0 I153 L153 g153 (by rw [Sy j ha, ← e]; exact e5))
                      | (have hn : ¬ ((bk = 0 ∧ L na (j : Int) ≠ 0) ∨ (bk ≠ 0 ∧ inX L j t = true)) := by
                           rintro (⟨y1, y2⟩ | ⟨y1, y2⟩) <;> contradiction
                         exact ih0 N K g (by rw [Sn j hn]; exact e))
                    · refine x_aload_n dX6_sweep_145 0 rfl rfl ?_
                      refine x_iload_n dX6_sweep_146 3 rfl rfl ?_
                      refine x_iload dX6_sweep_147 6 rfl ?_
                      refine x_iload dX6_sweep_149 5 rfl ?_
                      refine x_iload dX6_sweep_151 4 rfl ?_
                      refine x_callVv (as := [_, _, _, _]) dX6_sweep_153 lvX6_185 rfl rfl rfl rfl rfl rfl rfl ⟨rfl, rfl⟩ (fn) (fun I153 L153 R153 hq153 => ?_)
                      obtain ⟨g153, e153, rfl⟩ := hq153
                      refine x_iinc (lv' := [(0, _), (1, _), (2, _), (3, _), (4, _), (5, _), (6, _)]) dX6_sweep_156 3 rfl rfl rfl ?_
                      refine x_iinc (lv' := [(0, _), (1, _), (2, _), (3, _), (4, _), (5, _), (6, _)]) dX6_sweep_159 6 rfl rfl rfl ?_
                      refine x_goto (tgt := 104) dX6_sweep_162 (by decide) ?_
                      first
                      | (have e5 := e153
                         have ha : (bk = 0 ∧ L na (j : Int) ≠ 0) ∨ (bk ≠ 0 ∧ inX L j t = true) := by first | exact Or.inl ⟨by assumption, by assumption⟩ | exact Or.inr ⟨by assumption, by assumption⟩
                         exact ih0 I153 L153 g153 (by rw [Sy j ha, ← e]; exact e5))
                      | (have hn : ¬ ((bk = 0 ∧ L na (j : Int) ≠ 0) ∨ (bk ≠ 0 ∧ inX L j t = true)) := by
                           rintro (⟨y1, y2⟩ | ⟨y1, y2⟩) <;> contradiction
                         exact ih0 N K g (by rw [Sn j hn]; exact e))
                  · refine x_aload_n dX6_sweep_122 0 rfl rfl ?_
                    refine x_iload_n dX6_sweep_123 3 rfl rfl ?_
                    refine x_iload_n dX6_sweep_124 1 rfl rfl ?_
                    refine x_callVi (as := [_, _]) dX6_sweep_125 lvX6_138 rfl rfl rfl rfl rfl rfl rfl ⟨rfl, rfl⟩ (s_X6_isIn hW (by omega) (by omega)) (fun z125 I125 L125 R125 hq125 => ?_)
                    obtain ⟨rfl, rfl, rfl, rfl⟩ := hq125
                    rw [hin]
                    refine y_ifb_eq (tgt := 156) dX6_sweep_128 (by decide) (fun h128 => ?_) (fun h128 => ?_)
                    · refine x_iinc (lv' := [(0, _), (1, _), (2, _), (3, _), (4, _), (5, _), (6, _)]) dX6_sweep_156 3 rfl rfl rfl ?_
                      refine x_iinc (lv' := [(0, _), (1, _), (2, _), (3, _), (4, _), (5, _), (6, _)]) dX6_sweep_159 6 rfl rfl rfl ?_
                      refine x_goto (tgt := 104) dX6_sweep_162 (by decide) ?_
                      first
                      | (have e5 := e153
                         have ha : (bk = 0 ∧ L na (j : Int) ≠ 0) ∨ (bk ≠ 0 ∧ inX L j t = true) := by first | exact Or.inl ⟨by assumption, by assumption⟩ | exact Or.inr ⟨by assumption, by assumption⟩
                         exact ih0 I153 L153 g153 (by rw [Sy j ha, ← e]; exact e5))
                      | (have hn : ¬ ((bk = 0 ∧ L na (j : Int) ≠ 0) ∨ (bk ≠ 0 ∧ inX L j t = true)) := by
                           rintro (⟨y1, y2⟩ | ⟨y1, y2⟩) <;> contradiction
                         exact ih0 N K g (by rw [Sn j hn]; exact e))
                    · refine x_goto (tgt := 145) dX6_sweep_131 (by decide) ?_
                      refine x_aload_n dX6_sweep_145 0 rfl rfl ?_
                      refine x_iload_n dX6_sweep_146 3 rfl rfl ?_
                      refine x_iload dX6_sweep_147 6 rfl ?_
                      refine x_iload dX6_sweep_149 5 rfl ?_
                      refine x_iload dX6_sweep_151 4 rfl ?_
                      refine x_callVv (as := [_, _, _, _]) dX6_sweep_153 lvX6_185 rfl rfl rfl rfl rfl rfl rfl ⟨rfl, rfl⟩ (fn) (fun I153 L153 R153 hq153 => ?_)
                      obtain ⟨g153, e153, rfl⟩ := hq153
                      refine x_iinc (lv' := [(0, _), (1, _), (2, _), (3, _), (4, _), (5, _), (6, _)]) dX6_sweep_156 3 rfl rfl rfl ?_
                      refine x_iinc (lv' := [(0, _), (1, _), (2, _), (3, _), (4, _), (5, _), (6, _)]) dX6_sweep_159 6 rfl rfl rfl ?_
                      refine x_goto (tgt := 104) dX6_sweep_162 (by decide) ?_
                      first
                      | (have e5 := e153
                         have ha : (bk = 0 ∧ L na (j : Int) ≠ 0) ∨ (bk ≠ 0 ∧ inX L j t = true) := by first | exact Or.inl ⟨by assumption, by assumption⟩ | exact Or.inr ⟨by assumption, by assumption⟩
                         exact ih0 I153 L153 g153 (by rw [Sy j ha, ← e]; exact e5))
                      | (have hn : ¬ ((bk = 0 ∧ L na (j : Int) ≠ 0) ∨ (bk ≠ 0 ∧ inX L j t = true)) := by
                           rintro (⟨y1, y2⟩ | ⟨y1, y2⟩) <;> contradiction
                         exact ih0 N K g (by rw [Sn j hn]; exact e))
              · intro N K g e
                obtain ⟨x50, x51, x52, x3, x10⟩ := jp N g.1
                rw [ix3_s0] at e ⊢
                refine x_iload dX6_sweep_104 6 rfl ?_
                refine x_aload_n dX6_sweep_106 0 rfl rfl ?_
                refine x_getR dX6_sweep_107 flX6_54 rfl rfl hW.2.2.1 ?_
                refine x_getR dX6_sweep_110 flX6_182 (shP0 hW.2.1) rfl hW.2.1.2.2.2.2.2.1 ?_
                refine x_iconst dX6_sweep_113 ?_
                refine x_iald dX6_sweep_114 (shP5 hW.2.1) (by omega) ?_
                rw [x50]
                refine x_ic_ge (tgt := 165) dX6_sweep_115 (by decide) (by omega) (fun h115 => ?_) (fun h115 => ?_)
                · refine x_iinc (lv' := [(0, _), (1, _), (2, _), (3, _), (4, _), (5, _), (6, _)]) dX6_sweep_165 5 rfl rfl rfl ?_
                  refine x_goto (tgt := 87) dX6_sweep_168 (by decide) ?_
                  refine x_top (lv' := [(0, _), (1, _), (2, _), (3, _), (4, _), (5, _)]) 6 rfl ?_
                  exact ih1 N K g e
                · exfalso; omega
            refine x_iload dX6_sweep_87 5 rfl ?_
            refine x_aload_n dX6_sweep_89 0 rfl rfl ?_
            refine x_getR dX6_sweep_90 flX6_54 rfl rfl hW.2.2.1 ?_
            refine x_getR dX6_sweep_93 flX6_182 (shP0 hW.2.1) rfl hW.2.1.2.2.2.2.2.1 ?_
            refine x_iconst dX6_sweep_96 ?_
            refine x_iald dX6_sweep_97 (shP5 hW.2.1) (by omega) ?_
            rw [x51]
            refine x_ic_ge (tgt := 171) dX6_sweep_98 (by decide) (by omega) (fun h98 => ?_) (fun h98 => ?_)
            · exfalso; omega
            · refine x_iconst dX6_sweep_101 ?_
              refine x_istore (lv' := [(0, _), (1, _), (2, _), (3, _), (4, _), (5, _), (6, _)]) dX6_sweep_102 rfl rfl ?_
              exact l0 0 (by omega) N K g e
          · intro N K g e
            obtain ⟨x50, x51, x52, x3, x10⟩ := jp N g.1
            rw [ix3_s1] at e ⊢
            refine x_iload dX6_sweep_87 5 rfl ?_
            refine x_aload_n dX6_sweep_89 0 rfl rfl ?_
            refine x_getR dX6_sweep_90 flX6_54 rfl rfl hW.2.2.1 ?_
            refine x_getR dX6_sweep_93 flX6_182 (shP0 hW.2.1) rfl hW.2.1.2.2.2.2.2.1 ?_
            refine x_iconst dX6_sweep_96 ?_
            refine x_iald dX6_sweep_97 (shP5 hW.2.1) (by omega) ?_
            rw [x51]
            refine x_ic_ge (tgt := 171) dX6_sweep_98 (by decide) (by omega) (fun h98 => ?_) (fun h98 => ?_)
            · refine x_iinc (lv' := [(0, _), (1, _), (2, _), (3, _), (4, _), (5, _)]) dX6_sweep_171 4 rfl rfl rfl ?_
              refine x_goto (tgt := 70) dX6_sweep_174 (by decide) ?_
              refine x_top (lv' := [(0, _), (1, _), (2, _), (3, _), (4, _)]) 5 rfl ?_
              exact ih2 N K g e
            · exfalso; omega
        refine x_iload dX6_sweep_70 4 rfl ?_
        refine x_aload_n dX6_sweep_72 0 rfl rfl ?_
        refine x_getR dX6_sweep_73 flX6_54 rfl rfl hW.2.2.1 ?_
        refine x_getR dX6_sweep_76 flX6_182 (shP0 hW.2.1) rfl hW.2.1.2.2.2.2.2.1 ?_
        refine x_iconst dX6_sweep_79 ?_
        refine x_iald dX6_sweep_80 (shP5 hW.2.1) (by omega) ?_
        rw [x52]
        refine x_ic_ge (tgt := 177) dX6_sweep_81 (by decide) (by omega) (fun h81 => ?_) (fun h81 => ?_)
        · exfalso; omega
        · refine x_iconst dX6_sweep_84 ?_
          refine x_istore (lv' := [(0, _), (1, _), (2, _), (3, _), (4, _), (5, _)]) dX6_sweep_85 rfl rfl ?_
          exact l1 0 (by omega) N K g e
      · intro N K g e
        obtain ⟨x50, x51, x52, x3, x10⟩ := jp N g.1
        have e2 : ix3 n0 n1 0 0 n2 = n := by unfold ix3; rw [hn]; simp
        rw [e2] at e ⊢
        refine x_iload dX6_sweep_70 4 rfl ?_
        refine x_aload_n dX6_sweep_72 0 rfl rfl ?_
        refine x_getR dX6_sweep_73 flX6_54 rfl rfl hW.2.2.1 ?_
        refine x_getR dX6_sweep_76 flX6_182 (shP0 hW.2.1) rfl hW.2.1.2.2.2.2.2.1 ?_
        refine x_iconst dX6_sweep_79 ?_
        refine x_iald dX6_sweep_80 (shP5 hW.2.1) (by omega) ?_
        rw [x52]
        refine x_ic_ge (tgt := 177) dX6_sweep_81 (by decide) (by omega) (fun h81 => ?_) (fun h81 => ?_)
        · refine x_iconst dX6_sweep_177 ?_
          refine x_istore (lv' := [(0, _), (1, _), (2, _), (3, _), (4, _)]) dX6_sweep_178 rfl rfl ?_
          exact fl N K g e _
        · exfalso; omega
    have cont : ∀ b : Int, b = bk → Rn G mtX6_sweep Q 65 [(0, mr 19), (1, mi (t : Int)), (2, mi b)] [] shX J (mapL L nb n (fun _ _ => 0)) R := by
      intro b hb
      rw [hb]
      refine x_iconst dX6_sweep_65 ?_
      refine x_istore_n (lv' := [(0, _), (1, _), (2, _), (3, _)]) dX6_sweep_66 rfl rfl rfl ?_
      refine x_iconst dX6_sweep_67 ?_
      refine x_istore (lv' := [(0, _), (1, _), (2, _), (3, _), (4, _)]) dX6_sweep_68 rfl rfl ?_
      have i0 : ix3 n0 n1 0 0 0 = 0 := by unfold ix3; simp
      have y := l2 0 (by omega) J _ g0 (by rw [i0]; exact S0.symm)
      rw [i0] at y
      exact y
    have lz : ∀ j : Nat, j ≤ n → Rn G mtX6_sweep Q 19 [(0, mr 19), (1, mi (t : Int)), (2, mi (j : Int))] [] shX J (mapL L nb j (fun _ _ => 0)) R := by
      refine lpn n (fun j hj ih => ?_) ?_
      · refine x_iload_n dX6_sweep_19 2 rfl rfl ?_
        refine x_aload_n dX6_sweep_20 0 rfl rfl ?_
        refine x_getR dX6_sweep_21 flX6_54 rfl rfl hW.2.2.1 ?_
        refine x_getI dX6_sweep_24 flX6_85 (shP0 hW.2.1) rfl ?_
        rw [hn3]
        refine x_ic_ge (tgt := 43) dX6_sweep_27 (by decide) (by omega) (fun h27 => ?_) (fun h27 => ?_)
        · exfalso; omega
        · refine x_aload_n dX6_sweep_30 0 rfl rfl ?_
          refine x_getR dX6_sweep_31 flX6_38 rfl rfl hW.2.2.2.2.1 ?_
          refine x_iload_n dX6_sweep_34 2 rfl rfl ?_
          refine x_lconst 0 dX6_sweep_35 rfl ?_
          refine x_last dX6_sweep_36 (shW hW.2.2.2.2.2.2.2.1) (by omega) ?_
          refine x_iinc (lv' := [(0, _), (1, _), (2, _)]) dX6_sweep_37 2 rfl rfl rfl ?_
          refine x_goto (tgt := 19) dX6_sweep_40 (by decide) ?_
          rw [mapL_up L nb j (fun _ _ => 0)]
          exact ih
      · refine x_iload_n dX6_sweep_19 2 rfl rfl ?_
        refine x_aload_n dX6_sweep_20 0 rfl rfl ?_
        refine x_getR dX6_sweep_21 flX6_54 rfl rfl hW.2.2.1 ?_
        refine x_getI dX6_sweep_24 flX6_85 (shP0 hW.2.1) rfl ?_
        rw [hn3]
        refine x_ic_ge (tgt := 43) dX6_sweep_27 (by decide) (by omega) (fun h27 => ?_) (fun h27 => ?_)
        · refine x_aload_n dX6_sweep_43 0 rfl rfl ?_
          refine x_getI dX6_sweep_44 flX6_79 rfl rfl ?_
          refine x_iconst dX6_sweep_47 ?_
          refine x_ic_eq (tgt := 59) dX6_sweep_48 (by decide) (by omega) (fun h48 => ?_) (fun h48 => ?_)
          · refine x_iconst dX6_sweep_59 ?_
            refine x_goto (tgt := 64) dX6_sweep_60 (by decide) ?_
            refine x_istore_n (lv' := [(0, _), (1, _), (2, _)]) dX6_sweep_64 rfl rfl rfl ?_
            exact cont _ (by rw [hbk]; first | (rw [if_pos (by omega)]) | (rw [if_neg (by omega)]))
          · refine x_aload_n dX6_sweep_51 0 rfl rfl ?_
            refine x_getI dX6_sweep_52 flX6_79 rfl rfl ?_
            refine x_iconst dX6_sweep_55 ?_
            refine x_ic_ne (tgt := 63) dX6_sweep_56 (by decide) (by omega) (fun h56 => ?_) (fun h56 => ?_)
            · refine x_iconst dX6_sweep_63 ?_
              refine x_istore_n (lv' := [(0, _), (1, _), (2, _)]) dX6_sweep_64 rfl rfl rfl ?_
              exact cont _ (by rw [hbk]; first | (rw [if_pos (by omega)]) | (rw [if_neg (by omega)]))
            · refine x_iconst dX6_sweep_59 ?_
              refine x_goto (tgt := 64) dX6_sweep_60 (by decide) ?_
              refine x_istore_n (lv' := [(0, _), (1, _), (2, _)]) dX6_sweep_64 rfl rfl rfl ?_
              exact cont _ (by rw [hbk]; first | (rw [if_pos (by omega)]) | (rw [if_neg (by omega)]))
        · exfalso; omega
    have z := lz 0 (by omega)
    rw [mapL_0] at z
    refine x_iconst dX6_sweep_17 ?_
    refine x_istore_n (lv' := [(0, _), (1, _), (2, _)]) dX6_sweep_18 rfl rfl rfl ?_
    exact z
  refine x_aload_n dX6_sweep_0 0 rfl rfl ?_
  refine x_iload_n dX6_sweep_1 1 rfl rfl ?_
  refine x_putI dX6_sweep_2 flX6_175 rfl rfl rfl ?_
  rw [← hI2]
  refine x_aload_n dX6_sweep_5 0 rfl rfl ?_
  refine x_getR dX6_sweep_6 flX6_12 rfl rfl (hW.1 19 0 20 rfl) ?_
  refine x_aload_n dX6_sweep_9 0 rfl rfl ?_
  refine x_getR dX6_sweep_10 flX6_54 rfl rfl hW.2.2.1 ?_
  refine x_iload_n dX6_sweep_13 1 rfl rfl ?_
  refine x_callVv (as := [_, _]) dX6_sweep_14 lvX6_178 rfl rfl rfl rfl rfl rfl rfl ⟨rfl, rfl⟩ (lsp) (fun I14 L14 R14 hq14 => ?_)
  obtain ⟨hqJ, rfl, rfl⟩ := hq14
  exact main _ hqJ
end

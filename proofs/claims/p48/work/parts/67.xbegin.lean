/-! THE CLASS: a plan as the Walks use it; where all begin. -/
theorem SHP_c {I J : MI} {p h : Nat} (hp : 24 ≤ p) (hh : 24 ≤ h) (e : ∀ c i, 24 ≤ c → J c i = I c i) (s : SHP p h I) : SHP p h J := by
  have c1 := e p 1 hp
  have c0 := e h 0 hh
  have c3 : ∀ i, J (h + 3) i = I (h + 3) i := fun i => e _ _ (by omega)
  refine ⟨?_, fun w hw => ?_, fun a b c ha hb hc => ?_⟩
  · rw [e p 3 hp, std_c c1 c0 c3]
    exact s.1
  · rw [e (p + 5) _ (by omega), e (p + 6) _ (by omega), std_c c1 c0 c3, stW_c c1 c0 c3]
    exact s.2.1 w hw
  · rw [stW_c c1 c0 c3] at ha hb hc
    rw [stW_c c1 c0 c3, stW_c c1 c0 c3, e (p + 7) _ (by omega)]
    unfold sp3
    rw [spX_c c1 c0, spX_c c1 c0, spX_c c1 c0]
    exact s.2.2 a b c ha hb hc
/-- a plan ready to be walked: its house, its shape, its sounds -/
def PQ (I : MI) (p h n : Nat) : Prop := SHP p h I ∧ okP I h ∧ okD I h ∧ (0 ≤ I p 1 ∧ I p 1 ≤ I h 2) ∧ I p 3 = (n : Int) ∧ (1 ≤ I h 3 ∧ I h 3 ≤ 30) ∧ (0 ≤ I h 4 ∧ I h 4 < 256) ∧ ∀ t : Nat, (t : Int) < I h 3 → 0 ≤ I (p + 1) (t : Int) ∧ I (p + 1) (t : Int) < 256
theorem PQ_c {I J : MI} {p h n : Nat} (hp : 24 ≤ p) (hh : 24 ≤ h) (e : ∀ c i, 24 ≤ c → J c i = I c i) (s : PQ I p h n) : PQ J p h n := by
  obtain ⟨s1, s2, s3, s4, s5, s6, s7, s8⟩ := s
  refine ⟨SHP_c hp hh e s1, okP_c hh e s2, okD_c hh e s3, ?_, ?_, ?_, ?_, fun t ht => ?_⟩
  · rw [e p 1 hp, e h 2 hh]; exact s4
  · rw [e p 3 hp]; exact s5
  · rw [e h 3 hh]; exact s6
  · rw [e h 4 hh]; exact s7
  · rw [e h 3 hh] at ht
    rw [e (p + 1) _ (by omega)]; exact s8 t ht
/-- states of a walker, as a number -/
def nW (I : MI) (p h w : Nat) : Nat := (stW I p h w).toNat
theorem nW_r {I : MI} {p h n : Nat} (s : PQ I p h n) (w : Nat) : 1 ≤ nW I p h w ∧ nW I p h w ≤ 12 ∧ ((nW I p h w : Nat) : Int) = stW I p h w := by
  have h1 := stW_r s.2.1 s.2.2.2.1 w
  unfold nW
  omega
theorem PQ_n {I : MI} {p h n : Nat} (s : PQ I p h n) : n = nW I p h 0 * (nW I p h 1 * nW I p h 2) ∧ n ≤ 1728 := by
  have a0 := nW_r s 0
  have a1 := nW_r s 1
  have a2 := nW_r s 2
  have h1 : I p 3 = 1 * stW I p h 0 * stW I p h 1 * stW I p h 2 := s.1.1
  rw [s.2.2.2.2.1, ← a0.2.2, ← a1.2.2, ← a2.2.2, Int.one_mul, ← Int.natCast_mul, ← Int.natCast_mul] at h1
  have h2 : n = nW I p h 0 * nW I p h 1 * nW I p h 2 := by omega
  rw [h2, Nat.mul_assoc]
  exact ⟨rfl, n3_le a0.2.1 a1.2.1 a2.2.1⟩
/-- the joint state's number out of the strides -/
theorem PQ_ix {I : MI} {p h n : Nat} (s : PQ I p h n) (a b c : Nat) : (a : Int) * I (p + 6) 0 + (b : Int) * I (p + 6) 1 + (c : Int) * I (p + 6) 2 = ((ix3 (nW I p h 0) (nW I p h 1) a b c : Nat) : Int) := by
  have a0 := nW_r s 0
  have a1 := nW_r s 1
  have h0 : I (p + 6) 0 = 1 := (s.1.2.1 0 (by omega)).2
  have h1 : I (p + 6) 1 = 1 * stW I p h 0 := (s.1.2.1 1 (by omega)).2
  have h2 : I (p + 6) 2 = 1 * stW I p h 0 * stW I p h 1 := (s.1.2.1 2 (by omega)).2
  rw [h0, h1, h2, ← a0.2.2, ← a1.2.2, Int.one_mul, Int.mul_one, ← Int.natCast_mul, ← Int.natCast_mul, ← Int.natCast_mul]
  unfold ix3
  have e : a + nW I p h 0 * (b + nW I p h 1 * c) = a + b * nW I p h 0 + c * (nW I p h 0 * nW I p h 1) := by
    rw [Nat.mul_add, Nat.mul_comm b, ← Nat.mul_assoc, Nat.mul_comm c]
    omega
  omega
theorem ix3_inj {n0 n1 a b c s0 s1 s2 : Nat} (ha : a < n0) (hb : b < n1) (h0 : s0 < n0) (h1 : s1 < n1) (h : ix3 n0 n1 a b c = ix3 n0 n1 s0 s1 s2) : a = s0 ∧ b = s1 ∧ c = s2 := by
  by_cases e : a = s0 ∧ b = s1 ∧ c = s2
  · exact e
  · by_cases l : c < s2 ∨ c = s2 ∧ (b < s1 ∨ b = s1 ∧ a < s0)
    · have := ix3_mono (n0 := n0) (n1 := n1) ha hb l; omega
    · have := ix3_mono (n0 := n0) (n1 := n1) (a := s0) (b := s1) (c := s2) (s0 := a) (s1 := b) (s2 := c) h0 h1 (by omega); omega
theorem ix3_at {n0 n1 a b c : Nat} (ha : a < n0) (hb : b < n1) : ix3 n0 n1 a b c % n0 = a ∧ ix3 n0 n1 a b c / n0 % n1 = b ∧ ix3 n0 n1 a b c / n0 / n1 = c := by
  unfold ix3
  have h1 : (a + n0 * (b + n1 * c)) / n0 = b + n1 * c := by rw [Nat.add_mul_div_left _ _ (by omega), Nat.div_eq_of_lt ha, Nat.zero_add]
  refine ⟨by rw [Nat.add_mul_mod_self_left, Nat.mod_eq_of_lt ha], ?_, ?_⟩
  · rw [h1, Nat.add_mul_mod_self_left, Nat.mod_eq_of_lt hb]
  · rw [h1, Nat.add_mul_div_left _ _ (by omega), Nat.div_eq_of_lt hb, Nat.zero_add]
theorem ix3_of {n0 n1 n2 j : Nat} (h : j < n0 * (n1 * n2)) : j % n0 < n0 ∧ j / n0 % n1 < n1 ∧ j / n0 / n1 < n2 ∧ ix3 n0 n1 (j % n0) (j / n0 % n1) (j / n0 / n1) = j := by
  have p0 : 0 < n0 := by
    rcases Nat.eq_zero_or_pos n0 with e | e
    · rw [e, Nat.zero_mul] at h; omega
    · exact e
  have p1 : 0 < n1 := by
    rcases Nat.eq_zero_or_pos n1 with e | e
    · rw [e, Nat.zero_mul, Nat.mul_zero] at h; omega
    · exact e
  refine ⟨Nat.mod_lt _ p0, Nat.mod_lt _ p1, ?_, ?_⟩
  · rw [Nat.div_div_eq_div_mul]
    exact Nat.div_lt_of_lt_mul (by rw [Nat.mul_assoc]; exact h)
  · unfold ix3
    have h1 := Nat.div_add_mod (j / n0) n1
    have h2 := Nat.div_add_mod j n0
    rw [Nat.add_comm (j / n0 % n1), h1, Nat.add_comm, h2]
theorem inX_c {L K : MI} (e : ∀ i, K 24 i = L 24 i) (j t : Nat) : inX K j t = inX L j t := by unfold inX; rw [e]
theorem syX_c {I L K : MI} {p : Nat} (e : ∀ i, K 24 i = L 24 i) (j t : Nat) : syX I K p j t = syX I L p j t := by unfold syX; rw [inX_c e]
def rsX (I : MI) (p h w : Nat) : Int := if (w : Int) < I p 1 then I h 0 else 1
theorem rsX_r {I : MI} {p h n : Nat} (s : PQ I p h n) (w : Nat) : 1 ≤ rsX I p h w ∧ rsX I p h w ≤ stW I p h w := by
  obtain ⟨-, s2, -, s4, -⟩ := s
  obtain ⟨k1, k2, k3⟩ := s2
  unfold rsX stW
  split
  · rename_i hw
    have := k3 w (by omega)
    have h1 : I h 0 * 1 ≤ I h 0 * I (h + 3) (w : Int) := Int.mul_le_mul_of_nonneg_left (by omega) (by omega)
    omega
  · omega
def nR (I : MI) (p h w : Nat) : Nat := (rsX I p h w).toNat
/-- the values at first: 1 for the states of D, of all -/
def BG (L : MI) (na n0 n1 n2 : Nat) (K : MI) (D : Nat → Nat → Nat → Prop) : Prop := (∀ c i, c ≠ na → K c i = L c i) ∧ ∀ a b c, a < n0 → b < n1 → c < n2 → (K na (ix3 n0 n1 a b c : Int) = 1 ∧ D a b c) ∨ (K na (ix3 n0 n1 a b c : Int) = 0 ∧ ¬ D a b c)
theorem BG.ad {L K : MI} {na n0 n1 n2 s0 s1 s2 : Nat} {D D' : Nat → Nat → Nat → Prop} (h : BG L na n0 n1 n2 K D) (h0 : s0 < n0) (h1 : s1 < n1) (d1 : ∀ a b c, a < n0 → b < n1 → c < n2 → ¬ (a = s0 ∧ b = s1 ∧ c = s2) → (D' a b c ↔ D a b c)) (d2 : D' s0 s1 s2) : BG L na n0 n1 n2 (m_up K na (ix3 n0 n1 s0 s1 s2 : Int) 1) D' := by
  refine ⟨fun c i q => by rw [m_up_ne q]; exact h.1 c i q, fun a b c ha hb hc => ?_⟩
  by_cases e : a = s0 ∧ b = s1 ∧ c = s2
  · obtain ⟨rfl, rfl, rfl⟩ := e
    exact Or.inl ⟨m_up_eq, d2⟩
  · have q : (ix3 n0 n1 a b c : Int) ≠ (ix3 n0 n1 s0 s1 s2 : Int) := fun q => e (ix3_inj ha hb h0 h1 (by omega))
    rw [m_up_nj q, d1 a b c ha hb hc e]
    exact h.2 a b c ha hb hc
theorem BG.mv {L K : MI} {na n0 n1 n2 : Nat} {D D' : Nat → Nat → Nat → Prop} (h : BG L na n0 n1 n2 K D) (d : ∀ a b c, a < n0 → b < n1 → c < n2 → (D' a b c ↔ D a b c)) : BG L na n0 n1 n2 K D' :=
  ⟨h.1, fun a b c ha hb hc => by rw [d a b c ha hb hc]; exact h.2 a b c ha hb hc⟩
/-- those seen so far -/
def bgD (r0 r1 s0 s1 s2 : Nat) (Y : Nat → Nat → Nat → Bool) (a b c : Nat) : Prop := (a < r0 ∧ b < r1 ∧ (c < s2 ∨ c = s2 ∧ (b < s1 ∨ b = s1 ∧ a < s0))) ∧ Y a b c = true
section
variable {G : GT} {I L : MI} {R : MR} {p h na nb nk : Nat}

set_option maxHeartbeats 1500000 in
theorem s_X6_begin {n : Nat} {md sb : Int} (hW : isW (m_up R 19 9 (some p)) p na nb nk) (hph : R p 0 = some h) (hh : isH R h) (hQ0 : PQ I p h n) (hsb : sb = 0 ∨ sb = 1) : Sp G mtX6_begin [mr 19, mr p, mi md, mi sb] shX I L R (qv (fun I' L' R' => I' = (m_up (m_up I 19 10 md) 19 15 sb) ∧ BG L na (nW I p h 0) (nW I p h 1) (nW I p h 2) L' (fun a b c => (a < nR I p h 0 ∧ b < nR I p h 1 ∧ c < nR I p h 2) ∧ syX (m_up (m_up I 19 10 md) 19 15 sb) L p (ix3 (nW I p h 0) (nW I p h 1) a b c) 0 = true) ∧ R' = m_up R 19 9 (some p))) := by
  refine Sp.of pnX6_begin rfl ?_
  show Rn G mtX6_begin _ 0 [(0, mr 19), (1, mr p), (2, mi md), (3, mi sb)] [] shX I L R
  generalize hQ : (qv (fun I' L' R' => I' = (m_up (m_up I 19 10 md) 19 15 sb) ∧ BG L na (nW I p h 0) (nW I p h 1) (nW I p h 2) L' (fun a b c => (a < nR I p h 0 ∧ b < nR I p h 1 ∧ c < nR I p h 2) ∧ syX (m_up (m_up I 19 10 md) 19 15 sb) L p (ix3 (nW I p h 0) (nW I p h 1) a b c) 0 = true) ∧ R' = m_up R 19 9 (some p))) = Q
  have hp1 := hW.2.1.1
  have hh1 := hh.1
  obtain ⟨R0, hR0⟩ : ∃ R0, R0 = m_up R 19 9 (some p) := ⟨_, rfl⟩
  obtain ⟨J, hJ⟩ : ∃ J, J = (m_up (m_up I 19 10 md) 19 15 sb) := ⟨_, rfl⟩
  rw [← hR0] at hW hQ
  rw [← hJ] at hQ
  have hph0 : R0 p 0 = some h := by rw [hR0, m_up_ne (by omega)]; exact hph
  have hh0 : isH R0 h := by rw [hR0]; unfold isH; rw [m_up_ne (by omega), m_up_ne (by omega), m_up_ne (by omega), m_up_ne (by omega)]; exact hh
  have je : ∀ c i, c ≠ 19 → J c i = I c i := fun c i q => by rw [hJ, m_up_ne q, m_up_ne q]
  have s := PQ_c (J := J) (by omega) (by omega) (fun c i q => je c i (by omega)) hQ0
  have enW : ∀ w, nW J p h w = nW I p h w := fun w => by unfold nW; rw [stW_c (je _ _ (by omega)) (je _ _ (by omega)) (fun i => je _ _ (by omega))]
  have enR : ∀ w, nR J p h w = nR I p h w := fun w => by unfold nR rsX; rw [je _ _ (by omega), je _ _ (by omega)]
  rw [← enW, ← enW, ← enW, ← enR, ← enR, ← enR] at hQ
  have hna := hW.2.2.2.2.2.2.1
  obtain ⟨hn, hn2⟩ := PQ_n s
  have hn3 : J p 3 = (n : Int) := s.2.2.2.2.1
  have w0 := nW_r s 0
  have w1 := nW_r s 1
  have w2 := nW_r s 2
  have r0 := rsX_r s 0
  have r1 := rsX_r s 1
  have r2 := rsX_r s 2
  have hu1 := s.2.2.2.1
  have hu2 := s.2.1.2.1
  have hJ15 : J 19 15 = sb := by rw [hJ, m_up_eq]
  have t0 : ((nR J p h 0 : Nat) : Int) = rsX J p h 0 := by unfold nR; omega
  have t1 : ((nR J p h 1 : Nat) : Int) = rsX J p h 1 := by unfold nR; omega
  have t2 : ((nR J p h 2 : Nat) : Int) = rsX J p h 2 := by unfold nR; omega
  have ixe := PQ_ix s
  have ixl : ∀ a b c : Nat, a < nW J p h 0 → b < nW J p h 1 → c < nW J p h 2 → ix3 (nW J p h 0) (nW J p h 1) a b c < n := fun a b c ha hb hc => by rw [hn]; exact ix3_lt ha hb hc
  generalize nW J p h 0 = n0 at *
  generalize nW J p h 1 = n1 at *
  generalize nW J p h 2 = n2 at *
  generalize nR J p h 0 = m0 at *
  generalize nR J p h 1 = m1 at *
  generalize nR J p h 2 = m2 at *
  have rs0 : (if (0 : Int) < J p 1 then J h 0 else 1) = (m0 : Int) := t0.symm
  have rs1 : (if (1 : Int) < J p 1 then J h 0 else 1) = (m1 : Int) := t1.symm
  have rs2 : (if (2 : Int) < J p 1 then J h 0 else 1) = (m2 : Int) := t2.symm
  obtain ⟨Y, hY⟩ : ∃ Y : Nat → Nat → Nat → Bool, Y = fun a b c => syX J L p (ix3 n0 n1 a b c) 0 := ⟨_, rfl⟩
  have l2 : ∀ s2 : Nat, s2 ≤ m2 → ∀ K, BG L na n0 n1 n2 K (bgD m0 m1 0 0 s2 Y) → Rn G mtX6_begin Q 47 [(0, mr 19), (1, mr p), (2, mi md), (3, mi sb), (4, mi (s2 : Int))] [] shX J K R0 := by
    refine lpn m2 (fun s2 hs2 ih2 => ?_) ?_
    · intro K g
      have l1 : ∀ s1 : Nat, s1 ≤ m1 → ∀ K, BG L na n0 n1 n2 K (bgD m0 m1 0 s1 s2 Y) → Rn G mtX6_begin Q 60 [(0, mr 19), (1, mr p), (2, mi md), (3, mi sb), (4, mi (s2 : Int)), (5, mi (s1 : Int))] [] shX J K R0 := by
        refine lpn m1 (fun s1 hs1 ih1 => ?_) ?_
        · intro K g
          have l0 : ∀ s0 : Nat, s0 ≤ m0 → ∀ K, BG L na n0 n1 n2 K (bgD m0 m1 s0 s1 s2 Y) → Rn G mtX6_begin Q 73 [(0, mr 19), (1, mr p), (2, mi md), (3, mi sb), (4, mi (s2 : Int)), (5, mi (s1 : Int)), (6, mi (s0 : Int))] [] shX J K R0 := by
            refine lpn m0 (fun s0 hs0 ih0 => ?_) ?_
            · intro K g
              have hx := ixl s0 s1 s2 (by omega) (by omega) (by omega)
              have hY1 : syX J K p (ix3 n0 n1 s0 s1 s2) 0 = Y s0 s1 s2 := by rw [hY]; exact syX_c (fun i => g.1 24 i (by omega)) _ _
              have hst : Sp G mtX6_stays [mr 19, mi ((ix3 n0 n1 s0 s1 s2 : Nat) : Int), mi 0] shX J K R0 (qi (pu (b01 (syX J K p (ix3 n0 n1 s0 s1 s2) 0 = true)) J K R0)) := s_X6_stays (t := 0) hW (by omega) (by omega) (by omega)
              refine x_iload dX6_begin_73 6 rfl ?_
              refine x_aload_n dX6_begin_75 0 rfl rfl ?_
              refine x_iconst dX6_begin_76 ?_
              refine x_callVi (as := [_]) dX6_begin_77 lvX6_157 rfl rfl rfl rfl rfl rfl rfl ⟨rfl, rfl⟩ (s_X6_rested hW hph0 hh0 (by omega) (by omega)) (fun z77 I77 L77 R77 hq77 => ?_)
              obtain ⟨rfl, rfl, rfl, rfl⟩ := hq77
              rw [rs0]
              refine x_ic_ge (tgt := 147) dX6_begin_80 (by decide) (by omega) (fun h80 => ?_) (fun h80 => ?_)
              · exfalso; omega
              · refine x_iload dX6_begin_83 6 rfl ?_
                refine x_aload_n dX6_begin_85 0 rfl rfl ?_
                refine x_getR dX6_begin_86 flX6_54 rfl rfl hW.2.2.1 ?_
                refine x_getR dX6_begin_89 flX6_160 (shP0 hW.2.1) rfl hW.2.1.2.2.2.2.2.2.1 ?_
                refine x_iconst dX6_begin_92 ?_
                refine x_iald dX6_begin_93 (shP6 hW.2.1) (by omega) ?_
                refine x_imul dX6_begin_94 ?_
                refine x_iload dX6_begin_95 5 rfl ?_
                refine x_aload_n dX6_begin_97 0 rfl rfl ?_
                refine x_getR dX6_begin_98 flX6_54 rfl rfl hW.2.2.1 ?_
                refine x_getR dX6_begin_101 flX6_160 (shP0 hW.2.1) rfl hW.2.1.2.2.2.2.2.2.1 ?_
                refine x_iconst dX6_begin_104 ?_
                refine x_iald dX6_begin_105 (shP6 hW.2.1) (by omega) ?_
                refine x_imul dX6_begin_106 ?_
                refine x_iadd dX6_begin_107 ?_
                refine x_iload dX6_begin_108 4 rfl ?_
                refine x_aload_n dX6_begin_110 0 rfl rfl ?_
                refine x_getR dX6_begin_111 flX6_54 rfl rfl hW.2.2.1 ?_
                refine x_getR dX6_begin_114 flX6_160 (shP0 hW.2.1) rfl hW.2.1.2.2.2.2.2.2.1 ?_
                refine x_iconst dX6_begin_117 ?_
                refine x_iald dX6_begin_118 (shP6 hW.2.1) (by omega) ?_
                refine x_imul dX6_begin_119 ?_
                refine x_iadd dX6_begin_120 ?_
                rw [ixe s0 s1 s2]
                refine x_istore (lv' := [(0, _), (1, _), (2, _), (3, _), (4, _), (5, _), (6, _), (7, _)]) dX6_begin_121 rfl rfl ?_
                refine x_aload_n dX6_begin_123 0 rfl rfl ?_
                refine x_iload dX6_begin_124 7 rfl ?_
                refine x_iconst dX6_begin_126 ?_
                refine x_callVi (as := [_, _]) dX6_begin_127 lvX6_163 rfl rfl rfl rfl rfl rfl rfl ⟨rfl, rfl⟩ (hst) (fun z127 I127 L127 R127 hq127 => ?_)
                obtain ⟨rfl, rfl, rfl, rfl⟩ := hq127
                rw [hY1]
                refine y_ifb_eq (tgt := 141) dX6_begin_130 (by decide) (fun h130 => ?_) (fun h130 => ?_)
                · refine x_iinc (lv' := [(0, _), (1, _), (2, _), (3, _), (4, _), (5, _), (6, _), (7, _)]) dX6_begin_141 6 rfl rfl rfl ?_
                  refine x_goto (tgt := 73) dX6_begin_144 (by decide) ?_
                  refine x_top (lv' := [(0, _), (1, _), (2, _), (3, _), (4, _), (5, _), (6, _)]) 7 rfl ?_
                  first
                  | (have hs := h130
                     first
                     | (have hy : Y s0 s1 s2 = true := hs
                        exact ih0 _ (g.ad (by omega) (by omega) (fun a b c ha hb hc e => by unfold bgD; constructor <;> (rintro ⟨x1, x2⟩; exact ⟨by omega, x2⟩)) ⟨by omega, hy⟩))
                     | (have hy : ¬ Y s0 s1 s2 = true := hs
                        refine ih0 K (g.mv (fun a b c ha hb hc => ?_))
                        unfold bgD
                        constructor
                        · rintro ⟨x1, x2⟩
                          refine ⟨?_, x2⟩
                          by_cases e : a = s0 ∧ b = s1 ∧ c = s2
                          · obtain ⟨rfl, rfl, rfl⟩ := e; exact absurd x2 hy
                          · omega
                        · rintro ⟨x1, x2⟩
                          exact ⟨by omega, x2⟩))
                · refine x_aload_n dX6_begin_133 0 rfl rfl ?_
                  refine x_getR dX6_begin_134 flX6_35 rfl rfl hW.2.2.2.1 ?_
                  refine x_iload dX6_begin_137 7 rfl ?_
                  refine x_lconst 1 dX6_begin_139 rfl ?_
                  refine x_last dX6_begin_140 (shW hW.2.2.2.2.2.2.1) (by omega) ?_
                  refine x_iinc (lv' := [(0, _), (1, _), (2, _), (3, _), (4, _), (5, _), (6, _), (7, _)]) dX6_begin_141 6 rfl rfl rfl ?_
                  refine x_goto (tgt := 73) dX6_begin_144 (by decide) ?_
                  refine x_top (lv' := [(0, _), (1, _), (2, _), (3, _), (4, _), (5, _), (6, _)]) 7 rfl ?_
                  first
                  | (have hs := h130
                     first
                     | (have hy : Y s0 s1 s2 = true := hs
                        exact ih0 _ (g.ad (by omega) (by omega) (fun a b c ha hb hc e => by unfold bgD; constructor <;> (rintro ⟨x1, x2⟩; exact ⟨by omega, x2⟩)) ⟨by omega, hy⟩))
                     | (have hy : ¬ Y s0 s1 s2 = true := hs
                        refine ih0 K (g.mv (fun a b c ha hb hc => ?_))
                        unfold bgD
                        constructor
                        · rintro ⟨x1, x2⟩
                          refine ⟨?_, x2⟩
                          by_cases e : a = s0 ∧ b = s1 ∧ c = s2
                          · obtain ⟨rfl, rfl, rfl⟩ := e; exact absurd x2 hy
                          · omega
                        · rintro ⟨x1, x2⟩
                          exact ⟨by omega, x2⟩))
            · intro K g
              refine x_iload dX6_begin_73 6 rfl ?_
              refine x_aload_n dX6_begin_75 0 rfl rfl ?_
              refine x_iconst dX6_begin_76 ?_
              refine x_callVi (as := [_]) dX6_begin_77 lvX6_157 rfl rfl rfl rfl rfl rfl rfl ⟨rfl, rfl⟩ (s_X6_rested hW hph0 hh0 (by omega) (by omega)) (fun z77 I77 L77 R77 hq77 => ?_)
              obtain ⟨rfl, rfl, rfl, rfl⟩ := hq77
              rw [rs0]
              refine x_ic_ge (tgt := 147) dX6_begin_80 (by decide) (by omega) (fun h80 => ?_) (fun h80 => ?_)
              · refine x_iinc (lv' := [(0, _), (1, _), (2, _), (3, _), (4, _), (5, _), (6, _)]) dX6_begin_147 5 rfl rfl rfl ?_
                refine x_goto (tgt := 60) dX6_begin_150 (by decide) ?_
                refine x_top (lv' := [(0, _), (1, _), (2, _), (3, _), (4, _), (5, _)]) 6 rfl ?_
                refine ih1 K (g.mv (fun a b c ha hb hc => ?_))
                unfold bgD
                constructor <;> (rintro ⟨x1, x2⟩; exact ⟨by omega, x2⟩)
              · exfalso; omega
          refine x_iload dX6_begin_60 5 rfl ?_
          refine x_aload_n dX6_begin_62 0 rfl rfl ?_
          refine x_iconst dX6_begin_63 ?_
          refine x_callVi (as := [_]) dX6_begin_64 lvX6_157 rfl rfl rfl rfl rfl rfl rfl ⟨rfl, rfl⟩ (s_X6_rested hW hph0 hh0 (by omega) (by omega)) (fun z64 I64 L64 R64 hq64 => ?_)
          obtain ⟨rfl, rfl, rfl, rfl⟩ := hq64
          rw [rs1]
          refine x_ic_ge (tgt := 153) dX6_begin_67 (by decide) (by omega) (fun h67 => ?_) (fun h67 => ?_)
          · exfalso; omega
          · refine x_iconst dX6_begin_70 ?_
            refine x_istore (lv' := [(0, _), (1, _), (2, _), (3, _), (4, _), (5, _), (6, _)]) dX6_begin_71 rfl rfl ?_
            exact l0 0 (by omega) K g
        · intro K g
          refine x_iload dX6_begin_60 5 rfl ?_
          refine x_aload_n dX6_begin_62 0 rfl rfl ?_
          refine x_iconst dX6_begin_63 ?_
          refine x_callVi (as := [_]) dX6_begin_64 lvX6_157 rfl rfl rfl rfl rfl rfl rfl ⟨rfl, rfl⟩ (s_X6_rested hW hph0 hh0 (by omega) (by omega)) (fun z64 I64 L64 R64 hq64 => ?_)
          obtain ⟨rfl, rfl, rfl, rfl⟩ := hq64
          rw [rs1]
          refine x_ic_ge (tgt := 153) dX6_begin_67 (by decide) (by omega) (fun h67 => ?_) (fun h67 => ?_)
          · refine x_iinc (lv' := [(0, _), (1, _), (2, _), (3, _), (4, _), (5, _)]) dX6_begin_153 4 rfl rfl rfl ?_
            refine x_goto (tgt := 47) dX6_begin_156 (by decide) ?_
            refine x_top (lv' := [(0, _), (1, _), (2, _), (3, _), (4, _)]) 5 rfl ?_
            refine ih2 K (g.mv (fun a b c ha hb hc => ?_))
            unfold bgD
            constructor <;> (rintro ⟨x1, x2⟩; exact ⟨by omega, x2⟩)
          · exfalso; omega
      refine x_iload dX6_begin_47 4 rfl ?_
      refine x_aload_n dX6_begin_49 0 rfl rfl ?_
      refine x_iconst dX6_begin_50 ?_
      refine x_callVi (as := [_]) dX6_begin_51 lvX6_157 rfl rfl rfl rfl rfl rfl rfl ⟨rfl, rfl⟩ (s_X6_rested hW hph0 hh0 (by omega) (by omega)) (fun z51 I51 L51 R51 hq51 => ?_)
      obtain ⟨rfl, rfl, rfl, rfl⟩ := hq51
      rw [rs2]
      refine x_ic_ge (tgt := 159) dX6_begin_54 (by decide) (by omega) (fun h54 => ?_) (fun h54 => ?_)
      · refine x_vret dX6_begin_159 rfl ?_
        exfalso; omega
      · refine x_iconst dX6_begin_57 ?_
        refine x_istore (lv' := [(0, _), (1, _), (2, _), (3, _), (4, _), (5, _)]) dX6_begin_58 rfl rfl ?_
        exact l1 0 (by omega) K g
    · intro K g
      refine x_iload dX6_begin_47 4 rfl ?_
      refine x_aload_n dX6_begin_49 0 rfl rfl ?_
      refine x_iconst dX6_begin_50 ?_
      refine x_callVi (as := [_]) dX6_begin_51 lvX6_157 rfl rfl rfl rfl rfl rfl rfl ⟨rfl, rfl⟩ (s_X6_rested hW hph0 hh0 (by omega) (by omega)) (fun z51 I51 L51 R51 hq51 => ?_)
      obtain ⟨rfl, rfl, rfl, rfl⟩ := hq51
      rw [rs2]
      refine x_ic_ge (tgt := 159) dX6_begin_54 (by decide) (by omega) (fun h54 => ?_) (fun h54 => ?_)
      · refine x_vret dX6_begin_159 rfl ?_
        rw [← hQ]
        refine ⟨rfl, rfl, g.mv (fun a b c ha hb hc => ?_), rfl⟩
        unfold bgD
        rw [hY]
        constructor <;> (rintro ⟨x1, x2⟩; exact ⟨by omega, x2⟩)
      · exfalso; omega
  have lz : ∀ j : Nat, j ≤ n → Rn G mtX6_begin Q 18 [(0, mr 19), (1, mr p), (2, mi md), (3, mi sb), (4, mi (j : Int))] [] shX J (mapL L na j (fun _ _ => 0)) R0 := by
    refine lpn n (fun j hj ih => ?_) ?_
    · refine x_iload dX6_begin_18 4 rfl ?_
      refine x_aload_n dX6_begin_20 0 rfl rfl ?_
      refine x_getR dX6_begin_21 flX6_54 rfl rfl hW.2.2.1 ?_
      refine x_getI dX6_begin_24 flX6_85 (shP0 hW.2.1) rfl ?_
      rw [hn3]
      refine x_ic_ge (tgt := 44) dX6_begin_27 (by decide) (by omega) (fun h27 => ?_) (fun h27 => ?_)
      · exfalso; omega
      · refine x_aload_n dX6_begin_30 0 rfl rfl ?_
        refine x_getR dX6_begin_31 flX6_35 rfl rfl hW.2.2.2.1 ?_
        refine x_iload dX6_begin_34 4 rfl ?_
        refine x_lconst 0 dX6_begin_36 rfl ?_
        refine x_last dX6_begin_37 (shW hW.2.2.2.2.2.2.1) (by omega) ?_
        refine x_iinc (lv' := [(0, _), (1, _), (2, _), (3, _), (4, _)]) dX6_begin_38 4 rfl rfl rfl ?_
        refine x_goto (tgt := 18) dX6_begin_41 (by decide) ?_
        rw [mapL_up L na j (fun _ _ => 0)]
        exact ih
    · have hbg : BG L na n0 n1 n2 (mapL L na n (fun _ _ => 0)) (bgD m0 m1 0 0 0 Y) := by
        refine ⟨fun c i q => mapL_ne q i, fun a b c ha hb hc => Or.inr ⟨mapL_in (ixl a b c ha hb hc), fun q => ?_⟩⟩
        have := q.1
        omega
      refine x_iload dX6_begin_18 4 rfl ?_
      refine x_aload_n dX6_begin_20 0 rfl rfl ?_
      refine x_getR dX6_begin_21 flX6_54 rfl rfl hW.2.2.1 ?_
      refine x_getI dX6_begin_24 flX6_85 (shP0 hW.2.1) rfl ?_
      rw [hn3]
      refine x_ic_ge (tgt := 44) dX6_begin_27 (by decide) (by omega) (fun h27 => ?_) (fun h27 => ?_)
      · refine x_iconst dX6_begin_44 ?_
        refine x_istore (lv' := [(0, _), (1, _), (2, _), (3, _), (4, _)]) dX6_begin_45 rfl rfl ?_
        exact l2 0 (by omega) _ hbg
      · exfalso; omega
  have main : Rn G mtX6_begin Q 15 [(0, mr 19), (1, mr p), (2, mi md), (3, mi sb)] [] shX J L R0 := by
    refine x_iconst dX6_begin_15 ?_
    refine x_istore (lv' := [(0, _), (1, _), (2, _), (3, _), (4, _)]) dX6_begin_16 rfl rfl ?_
    have z := lz 0 (by omega)
    rw [mapL_0] at z
    exact z
  have main5 : Rn G mtX6_begin Q 5 [(0, mr 19), (1, mr p), (2, mi md), (3, mi sb)] [] shX I L R0 := by
    refine x_aload_n dX6_begin_5 0 rfl rfl ?_
    refine x_iload_n dX6_begin_6 2 rfl rfl ?_
    refine x_putI dX6_begin_7 flX6_79 rfl rfl rfl ?_
    refine x_aload_n dX6_begin_10 0 rfl rfl ?_
    refine x_iload_n dX6_begin_11 3 rfl rfl ?_
    refine x_putZ dX6_begin_12 flX6_135 rfl rfl rfl hsb ?_
    rw [← hJ]
    exact main
  refine x_aload_n dX6_begin_0 0 rfl rfl ?_
  refine x_aload_n dX6_begin_1 1 rfl rfl ?_
  refine x_putR dX6_begin_2 flX6_54 rfl rfl rfl ?_
  rw [← hR0]
  exact main5
end

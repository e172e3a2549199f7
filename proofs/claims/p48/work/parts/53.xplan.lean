/-! THE CLASS: the Plan's shape. -/
def stW (I : MI) (p h : Nat) (w : Nat) : Int := if (w : Int) < I p 1 then I h 0 * I (h + 3) (w : Int) else 1
def std (I : MI) (p h : Nat) : Nat → Int
  | 0 => 1
  | w + 1 => std I p h w * stW I p h w
/-- a house as it is used: its rooms, its walkers' paces -/
def okP (I : MI) (h : Nat) : Prop := (1 ≤ I h 0 ∧ I h 0 ≤ 6) ∧ (0 ≤ I h 2 ∧ I h 2 ≤ 3) ∧ ∀ w : Nat, (w : Int) < I h 2 → 1 ≤ I (h + 3) (w : Int) ∧ I (h + 3) (w : Int) ≤ 2
theorem stW_r {I : MI} {p h : Nat} (k : okP I h) (hu : 0 ≤ I p 1 ∧ I p 1 ≤ I h 2) (w : Nat) : 1 ≤ stW I p h w ∧ stW I p h w ≤ 12 := by
  unfold stW
  split
  · have h1 := k.2.2 w (by omega)
    have h2 := k.1
    have : I (h + 3) (w : Int) = 1 ∨ I (h + 3) (w : Int) = 2 := by omega
    rcases this with q | q <;> rw [q] <;> omega
  · omega
theorem std_r {I : MI} {p h : Nat} (k : okP I h) (hu : 0 ≤ I p 1 ∧ I p 1 ≤ I h 2) : ∀ w : Nat, 1 ≤ std I p h w ∧ std I p h w ≤ 12 ^ w
  | 0 => by unfold std; omega
  | w + 1 => by
    have h1 := std_r k hu w
    have h2 := stW_r k hu w
    unfold std
    constructor
    · exact Int.mul_pos (by omega) (by omega)
    · rw [Int.pow_succ]
      exact Int.mul_le_mul h1.2 h2.2 (by omega) (by omega)
def FP (p : Nat) (I J : MI) : Prop := ∀ c i, ¬ (c = p ∧ i = 3) → ¬ (p + 5 ≤ c ∧ c ≤ p + 7) → J c i = I c i
theorem FP.rf (p : Nat) (I : MI) : FP p I I := fun _ _ _ _ => rfl
def G7 (p : Nat) (I J : MI) : Prop := ∀ c i, c ≠ p + 7 → J c i = I c i
def ix3 (n0 n1 a b c : Nat) : Nat := a + n0 * (b + n1 * c)
theorem ix3_lt {n0 n1 n2 a b c : Nat} (ha : a < n0) (hb : b < n1) (hc : c < n2) : ix3 n0 n1 a b c < n0 * (n1 * n2) := by
  have h1 : n1 * (c + 1) ≤ n1 * n2 := Nat.mul_le_mul_left _ hc
  rw [Nat.mul_succ] at h1
  have h2 : n0 * (b + n1 * c + 1) ≤ n0 * (n1 * n2) := Nat.mul_le_mul_left _ (by omega)
  rw [Nat.mul_succ] at h2
  unfold ix3
  omega
theorem ix3_mono {n0 n1 a b c s0 s1 s2 : Nat} (ha : a < n0) (hb : b < n1) (h : c < s2 ∨ c = s2 ∧ (b < s1 ∨ b = s1 ∧ a < s0)) : ix3 n0 n1 a b c < ix3 n0 n1 s0 s1 s2 := by
  unfold ix3
  rcases h with h | ⟨rfl, h | ⟨rfl, h⟩⟩
  · have h1 : n1 * (c + 1) ≤ n1 * s2 := Nat.mul_le_mul_left _ h
    rw [Nat.mul_succ] at h1
    have h2 : n0 * (b + n1 * c + 1) ≤ n0 * (s1 + n1 * s2) := Nat.mul_le_mul_left _ (by omega)
    rw [Nat.mul_succ] at h2
    omega
  · have h2 : n0 * (b + n1 * c + 1) ≤ n0 * (s1 + n1 * c) := Nat.mul_le_mul_left _ (by omega)
    rw [Nat.mul_succ] at h2
    omega
  · omega
theorem ix3_s0 {n0 n1 s1 s2 : Nat} : ix3 n0 n1 n0 s1 s2 = ix3 n0 n1 0 (s1 + 1) s2 := by
  unfold ix3
  rw [show s1 + 1 + n1 * s2 = (s1 + n1 * s2) + 1 by omega, Nat.mul_succ]
  omega
theorem ix3_s1 {n0 n1 s2 : Nat} : ix3 n0 n1 0 n1 s2 = ix3 n0 n1 0 0 (s2 + 1) := by
  unfold ix3
  rw [Nat.mul_succ]
  congr 2
  omega
theorem n3_le {n0 n1 n2 : Nat} (h0 : n0 ≤ 12) (h1 : n1 ≤ 12) (h2 : n2 ≤ 12) : n0 * (n1 * n2) ≤ 1728 := by
  have a : n1 * n2 ≤ 12 * 12 := Nat.mul_le_mul h1 h2
  have b : n0 * (n1 * n2) ≤ 12 * (12 * 12) := Nat.mul_le_mul h0 a
  omega
def sp3 (I : MI) (p h : Nat) (a b c : Nat) : Int := z_or (z_or (spX I p h 0 (a : Int)) (spX I p h 1 (b : Int))) (spX I p h 2 (c : Int))
/-- the plan's shape stands -/
def SHP (p h : Nat) (J : MI) : Prop := J p 3 = std J p h 3 ∧ (∀ w : Nat, w < 3 → J (p + 5) (w : Int) = stW J p h w ∧ J (p + 6) (w : Int) = std J p h w) ∧
  ∀ a b c : Nat, a < (stW J p h 0).toNat → b < (stW J p h 1).toNat → c < (stW J p h 2).toNat → J (p + 7) (ix3 (stW J p h 0).toNat (stW J p h 1).toNat a b c : Int) = sp3 J p h a b c
theorem stW_c {I J : MI} {p h : Nat} (h1 : J p 1 = I p 1) (h0 : J h 0 = I h 0) (h3 : ∀ i, J (h + 3) i = I (h + 3) i) (w : Nat) : stW J p h w = stW I p h w := by unfold stW; rw [h1, h0, h3]
theorem std_c {I J : MI} {p h : Nat} (h1 : J p 1 = I p 1) (h0 : J h 0 = I h 0) (h3 : ∀ i, J (h + 3) i = I (h + 3) i) : ∀ w : Nat, std J p h w = std I p h w
  | 0 => rfl
  | w + 1 => by unfold std; rw [std_c h1 h0 h3 w, stW_c h1 h0 h3 w]
theorem spX_c {I J : MI} {p h : Nat} (h1 : J p 1 = I p 1) (h0 : J h 0 = I h 0) (w s : Int) : spX J p h w s = spX I p h w s := by unfold spX rmX; rw [h1, h0]
theorem shp_step {I J : MI} {p h w : Nat} {V : Int} (hV : V = stW I p h w) (f1 : FP p I J) (f2 : J p 3 = std I p h w) (f3 : ∀ v : Nat, v < w → J (p + 5) (v : Int) = stW I p h v ∧ J (p + 6) (v : Int) = std I p h v) :
  FP p I (m_up (m_up (m_up J (p + 5) (w : Int) V) (p + 6) (w : Int) (J p 3)) p 3 (J p 3 * m_up J (p + 5) (w : Int) V (p + 5) (w : Int))) ∧
  m_up (m_up (m_up J (p + 5) (w : Int) V) (p + 6) (w : Int) (J p 3)) p 3 (J p 3 * m_up J (p + 5) (w : Int) V (p + 5) (w : Int)) p 3 = std I p h (w + 1) ∧
  ∀ v : Nat, v < w + 1 → m_up (m_up (m_up J (p + 5) (w : Int) V) (p + 6) (w : Int) (J p 3)) p 3 (J p 3 * m_up J (p + 5) (w : Int) V (p + 5) (w : Int)) (p + 5) (v : Int) = stW I p h v ∧ m_up (m_up (m_up J (p + 5) (w : Int) V) (p + 6) (w : Int) (J p 3)) p 3 (J p 3 * m_up J (p + 5) (w : Int) V (p + 5) (w : Int)) (p + 6) (v : Int) = std I p h v := by
  refine ⟨fun c i q1 q2 => by rw [show m_up (m_up (m_up J (p + 5) (w : Int) V) (p + 6) (w : Int) (J p 3)) p 3 (J p 3 * m_up J (p + 5) (w : Int) V (p + 5) (w : Int)) c i = J c i by unfold m_up; rw [if_neg (by omega), if_neg (by omega), if_neg (by omega)]]; exact f1 c i q1 q2, ?_, fun v hv => ?_⟩
  · rw [m_up_eq, m_up_eq, hV, f2]
    rfl
  · refine ⟨?_, ?_⟩
    · rw [m_up_ne (show p + 5 ≠ p by omega), m_up_ne (show p + 5 ≠ p + 6 by omega)]
      by_cases e : v = w
      · subst e
        rw [m_up_eq]; exact hV
      · rw [m_up_nj (by omega)]; exact (f3 v (by omega)).1
    · rw [m_up_ne (show p + 6 ≠ p by omega)]
      by_cases e : v = w
      · subst e
        rw [m_up_eq]; exact f2
      · rw [m_up_nj (by omega), m_up_ne (show p + 6 ≠ p + 5 by omega)]; exact (f3 v (by omega)).2
section
variable {G : GT} {I L : MI} {R : MR} {p h : Nat}

set_option maxHeartbeats 1500000 in
theorem s_X3_shape  (hp : isP R p) (hh : isH R h) (hph : R p 0 = some h) (k : okP I h) (hu : 0 ≤ I p 1 ∧ I p 1 ≤ I h 2) : Sp G mtX3_shape [mr p] shX I L R (qv (fun I' L' R' => FP p I I' ∧ SHP p h I' ∧ L = L' ∧ R = R')) := by
  refine Sp.of pnX3_shape rfl ?_
  show Rn G mtX3_shape _ 0 [(0, mr p)] [] shX I L R
  generalize hQ : (qv (fun I' L' R' => FP p I I' ∧ SHP p h I' ∧ L = L' ∧ R = R')) = Q
  have hp1 := hp.1
  have hh1 := hh.1
  have hst := stW_r k hu
  have hsd := std_r k hu
  obtain ⟨k1, k2, k3⟩ := id k
  have fin : ∀ J, FP p I J → J p 3 = std I p h 3 → (∀ w : Nat, w < 3 → J (p + 5) (w : Int) = stW I p h w ∧ J (p + 6) (w : Int) = std I p h w) → (∀ a b c : Nat, a < (stW I p h 0).toNat → b < (stW I p h 1).toNat → c < (stW I p h 2).toNat → J (p + 7) (ix3 (stW I p h 0).toNat (stW I p h 1).toNat a b c : Int) = sp3 I p h a b c) → Q none J L R := by
    intro J g1 g2 g3 g4
    have e1 : J p 1 = I p 1 := g1 p 1 (by omega) (by omega)
    have e0 : J h 0 = I h 0 := g1 h 0 (by omega) (by omega)
    have e3 : ∀ i, J (h + 3) i = I (h + 3) i := fun i => g1 (h + 3) i (by omega) (by omega)
    rw [← hQ]
    refine ⟨rfl, g1, ⟨by rw [g2, std_c e1 e0 e3], fun w hw => by rw [stW_c e1 e0 e3, std_c e1 e0 e3]; exact g3 w hw, fun a b c ha hb hc => ?_⟩, rfl, rfl⟩
    rw [stW_c e1 e0 e3] at ha hb hc
    rw [stW_c e1 e0 e3, stW_c e1 e0 e3, g4 a b c ha hb hc]
    unfold sp3
    rw [spX_c e1 e0, spX_c e1 e0, spX_c e1 e0]
  have l2 : ∀ J0, FP p I J0 → J0 p 3 = std I p h 3 → (∀ w : Nat, w < 3 → J0 (p + 5) (w : Int) = stW I p h w ∧ J0 (p + 6) (w : Int) = std I p h w) → Rn G mtX3_shape Q 82 [(0, mr p), (1, mi 0), (2, mi 0)] [] shX J0 L R := by
    intro J0 f1 f2 f3
    obtain ⟨n0, hn0⟩ : ∃ n0 : Nat, stW I p h 0 = (n0 : Int) := ⟨(stW I p h 0).toNat, by have := hst 0; omega⟩
    obtain ⟨n1, hn1⟩ : ∃ n1 : Nat, stW I p h 1 = (n1 : Int) := ⟨(stW I p h 1).toNat, by have := hst 1; omega⟩
    obtain ⟨n2, hn2⟩ : ∃ n2 : Nat, stW I p h 2 = (n2 : Int) := ⟨(stW I p h 2).toNat, by have := hst 2; omega⟩
    have r0 := hst 0
    have r1 := hst 1
    have r2 := hst 2
    rw [hn0] at r0
    rw [hn1] at r1
    rw [hn2] at r2
    have g0 : J0 (p + 5) 0 = (n0 : Int) := (f3 0 (by omega)).1.trans hn0
    have g1 : J0 (p + 5) 1 = (n1 : Int) := (f3 1 (by omega)).1.trans hn1
    have g2 : J0 (p + 5) 2 = (n2 : Int) := (f3 2 (by omega)).1.trans hn2
    have hle := n3_le (n0 := n0) (n1 := n1) (n2 := n2) (by omega) (by omega) (by omega)
    have loop2 : ∀ s2 : Nat, s2 ≤ n2 → ∀ J, G7 p J0 J → (∀ a b c : Nat, a < n0 → b < n1 → c < s2 → J (p + 7) (ix3 n0 n1 a b c : Int) = sp3 I p h a b c) → Rn G mtX3_shape Q 82 [(0, mr p), (1, mi (ix3 n0 n1 0 0 s2 : Int)), (2, mi (s2 : Int))] [] shX J L R := by
      refine lpn n2 (fun s2 hs2 ih2 => ?_) ?_
      · intro J m1 m2
        have loop1 : ∀ s1 : Nat, s1 ≤ n1 → ∀ J, G7 p J0 J → (∀ a b c : Nat, a < n0 → b < n1 → (c < s2 ∨ c = s2 ∧ b < s1) → J (p + 7) (ix3 n0 n1 a b c : Int) = sp3 I p h a b c) → Rn G mtX3_shape Q 94 [(0, mr p), (1, mi (ix3 n0 n1 0 s1 s2 : Int)), (2, mi (s2 : Int)), (3, mi (s1 : Int))] [] shX J L R := by
          refine lpn n1 (fun s1 hs1 ih1 => ?_) ?_
          · intro J m1 m2
            have loop0 : ∀ s0 : Nat, s0 ≤ n0 → ∀ J, G7 p J0 J → (∀ a b c : Nat, a < n0 → b < n1 → (c < s2 ∨ c = s2 ∧ (b < s1 ∨ b = s1 ∧ a < s0)) → J (p + 7) (ix3 n0 n1 a b c : Int) = sp3 I p h a b c) → Rn G mtX3_shape Q 107 [(0, mr p), (1, mi (ix3 n0 n1 s0 s1 s2 : Int)), (2, mi (s2 : Int)), (3, mi (s1 : Int)), (4, mi (s0 : Int))] [] shX J L R := by
              refine lpn n0 (fun s0 hs0 ih0 => ?_) ?_
              · intro J m1 m2
                have hix := ix3_lt (n0 := n0) (n1 := n1) (n2 := n2) hs0 hs1 hs2
                have hj : ∀ c i, c ≠ p + 7 → (¬ (c = p ∧ i = 3)) → (¬ (p + 5 ≤ c ∧ c ≤ p + 7)) → J c i = I c i := fun c i q1 q2 q3 => (m1 c i q1).trans (f1 c i q2 q3)
                have jp1 : J p 1 = I p 1 := hj p 1 (by omega) (by omega) (by omega)
                have jh0 : J h 0 = I h 0 := hj h 0 (by omega) (by omega) (by omega)
                refine x_iload dX3_shape_107 4 rfl ?_
                refine x_aload_n dX3_shape_109 0 rfl rfl ?_
                refine x_getR dX3_shape_110 flX3_28 (shP0 hp) rfl hp.2.2.2.2.2.1 ?_
                refine x_iconst dX3_shape_113 ?_
                refine x_iald dX3_shape_114 (shP5 hp) (by omega) ?_
                rw [m1 _ _ (by omega), g0]
                refine x_ic_ge (tgt := 154) dX3_shape_115 (by decide) (by first | omega | exact z_and_r _ _ | exact z_or_r _ _ | exact z_xor_r _ _) (fun h115 => ?_) (fun h115 => ?_)
                · exfalso; omega
                · refine x_aload_n dX3_shape_118 0 rfl rfl ?_
                  refine x_getR dX3_shape_119 flX3_34 (shP0 hp) rfl hp.2.2.2.2.2.2.2 ?_
                  refine x_iload_n dX3_shape_122 1 rfl rfl ?_
                  refine x_aload_n dX3_shape_123 0 rfl rfl ?_
                  refine x_iconst dX3_shape_124 ?_
                  refine x_iload dX3_shape_125 4 rfl ?_
                  refine x_callVi (as := [_, _]) dX3_shape_127 lvX3_82 rfl (shP0 hp) rfl rfl rfl rfl rfl ⟨rfl, rfl⟩ (s_X3_spot hp hh hph (by omega) (by omega) (by omega) (by omega)) (fun z127 I127 L127 R127 hq127 => ?_)
                  obtain ⟨rfl, rfl, rfl, rfl⟩ := hq127
                  refine x_aload_n dX3_shape_130 0 rfl rfl ?_
                  refine x_iconst dX3_shape_131 ?_
                  refine x_iload_n dX3_shape_132 3 rfl rfl ?_
                  refine x_callVi (as := [_, _]) dX3_shape_133 lvX3_82 rfl (shP0 hp) rfl rfl rfl rfl rfl ⟨rfl, rfl⟩ (s_X3_spot hp hh hph (by omega) (by omega) (by omega) (by omega)) (fun z133 I133 L133 R133 hq133 => ?_)
                  obtain ⟨rfl, rfl, rfl, rfl⟩ := hq133
                  refine x_ior dX3_shape_136 ?_
                  refine x_aload_n dX3_shape_137 0 rfl rfl ?_
                  refine x_iconst dX3_shape_138 ?_
                  refine x_iload_n dX3_shape_139 2 rfl rfl ?_
                  refine x_callVi (as := [_, _]) dX3_shape_140 lvX3_82 rfl (shP0 hp) rfl rfl rfl rfl rfl ⟨rfl, rfl⟩ (s_X3_spot hp hh hph (by omega) (by omega) (by omega) (by omega)) (fun z140 I140 L140 R140 hq140 => ?_)
                  obtain ⟨rfl, rfl, rfl, rfl⟩ := hq140
                  refine x_ior dX3_shape_143 ?_
                  refine x_iast dX3_shape_144 (shP7 hp) (by omega) ?_
                  refine x_iinc (lv' := [(0, _), (1, _), (2, _), (3, _), (4, _)]) dX3_shape_145 1 rfl rfl rfl ?_
                  refine x_iinc (lv' := [(0, _), (1, _), (2, _), (3, _), (4, _)]) dX3_shape_148 4 rfl rfl rfl ?_
                  refine x_goto (tgt := 107) dX3_shape_151 (by decide) ?_
                  have hnx : ix3 n0 n1 (s0 + 1) s1 s2 = ix3 n0 n1 s0 s1 s2 + 1 := by unfold ix3; omega
                  rw [show ((ix3 n0 n1 s0 s1 s2 : Nat) : Int) + 1 = ((ix3 n0 n1 (s0 + 1) s1 s2 : Nat) : Int) by rw [hnx]; rfl]
                  refine ih0 _ (fun c i q => by rw [m_up_ne q]; exact m1 c i q) (fun a b c ha hb hc => ?_)
                  by_cases e : a = s0 ∧ b = s1 ∧ c = s2
                  · obtain ⟨rfl, rfl, rfl⟩ := e
                    rw [m_up_eq]
                    unfold sp3
                    rw [spX_c jp1 jh0, spX_c jp1 jh0, spX_c jp1 jh0]
                  · have hlt := ix3_mono (c := c) (s0 := s0) (s1 := s1) (s2 := s2) ha hb (by omega)
                    rw [m_up_nj (by omega)]
                    exact m2 a b c ha hb (by omega)
              · intro J m1 m2
                refine x_iload dX3_shape_107 4 rfl ?_
                refine x_aload_n dX3_shape_109 0 rfl rfl ?_
                refine x_getR dX3_shape_110 flX3_28 (shP0 hp) rfl hp.2.2.2.2.2.1 ?_
                refine x_iconst dX3_shape_113 ?_
                refine x_iald dX3_shape_114 (shP5 hp) (by omega) ?_
                rw [m1 _ _ (by omega), g0]
                refine x_ic_ge (tgt := 154) dX3_shape_115 (by decide) (by first | omega | exact z_and_r _ _ | exact z_or_r _ _ | exact z_xor_r _ _) (fun h115 => ?_) (fun h115 => ?_)
                · refine x_iinc (lv' := [(0, _), (1, _), (2, _), (3, _), (4, _)]) dX3_shape_154 3 rfl rfl rfl ?_
                  refine x_goto (tgt := 94) dX3_shape_157 (by decide) ?_
                  refine x_top (lv' := [(0, _), (1, _), (2, _), (3, _)]) 4 rfl ?_
                  rw [ix3_s0]
                  exact ih1 J m1 (fun a b c ha hb hc => m2 a b c ha hb (by omega))
                · exfalso; omega
            refine x_iload_n dX3_shape_94 3 rfl rfl ?_
            refine x_aload_n dX3_shape_95 0 rfl rfl ?_
            refine x_getR dX3_shape_96 flX3_28 (shP0 hp) rfl hp.2.2.2.2.2.1 ?_
            refine x_iconst dX3_shape_99 ?_
            refine x_iald dX3_shape_100 (shP5 hp) (by omega) ?_
            rw [m1 _ _ (by omega), g1]
            refine x_ic_ge (tgt := 160) dX3_shape_101 (by decide) (by first | omega | exact z_and_r _ _ | exact z_or_r _ _ | exact z_xor_r _ _) (fun h101 => ?_) (fun h101 => ?_)
            · exfalso; omega
            · refine x_iconst dX3_shape_104 ?_
              refine x_istore (lv' := [(0, _), (1, _), (2, _), (3, _), (4, _)]) dX3_shape_105 rfl rfl ?_
              exact loop0 0 (by omega) J m1 (fun a b c ha hb hc => m2 a b c ha hb (by omega))
          · intro J m1 m2
            refine x_iload_n dX3_shape_94 3 rfl rfl ?_
            refine x_aload_n dX3_shape_95 0 rfl rfl ?_
            refine x_getR dX3_shape_96 flX3_28 (shP0 hp) rfl hp.2.2.2.2.2.1 ?_
            refine x_iconst dX3_shape_99 ?_
            refine x_iald dX3_shape_100 (shP5 hp) (by omega) ?_
            rw [m1 _ _ (by omega), g1]
            refine x_ic_ge (tgt := 160) dX3_shape_101 (by decide) (by first | omega | exact z_and_r _ _ | exact z_or_r _ _ | exact z_xor_r _ _) (fun h101 => ?_) (fun h101 => ?_)
            · refine x_iinc (lv' := [(0, _), (1, _), (2, _), (3, _)]) dX3_shape_160 2 rfl rfl rfl ?_
              refine x_goto (tgt := 82) dX3_shape_163 (by decide) ?_
              refine x_top (lv' := [(0, _), (1, _), (2, _)]) 3 rfl ?_
              rw [ix3_s1]
              exact ih2 J m1 (fun a b c ha hb hc => m2 a b c ha hb (by omega))
            · exfalso; omega
        refine x_iload_n dX3_shape_82 2 rfl rfl ?_
        refine x_aload_n dX3_shape_83 0 rfl rfl ?_
        refine x_getR dX3_shape_84 flX3_28 (shP0 hp) rfl hp.2.2.2.2.2.1 ?_
        refine x_iconst dX3_shape_87 ?_
        refine x_iald dX3_shape_88 (shP5 hp) (by omega) ?_
        rw [m1 _ _ (by omega), g2]
        refine x_ic_ge (tgt := 166) dX3_shape_89 (by decide) (by first | omega | exact z_and_r _ _ | exact z_or_r _ _ | exact z_xor_r _ _) (fun h89 => ?_) (fun h89 => ?_)
        · refine x_vret dX3_shape_166 rfl ?_
          exfalso; omega
        · refine x_iconst dX3_shape_92 ?_
          refine x_istore_n (lv' := [(0, _), (1, _), (2, _), (3, _)]) dX3_shape_93 rfl rfl rfl ?_
          exact loop1 0 (by omega) J m1 (fun a b c ha hb hc => m2 a b c ha hb (by omega))
      · intro J m1 m2
        refine x_iload_n dX3_shape_82 2 rfl rfl ?_
        refine x_aload_n dX3_shape_83 0 rfl rfl ?_
        refine x_getR dX3_shape_84 flX3_28 (shP0 hp) rfl hp.2.2.2.2.2.1 ?_
        refine x_iconst dX3_shape_87 ?_
        refine x_iald dX3_shape_88 (shP5 hp) (by omega) ?_
        rw [m1 _ _ (by omega), g2]
        refine x_ic_ge (tgt := 166) dX3_shape_89 (by decide) (by first | omega | exact z_and_r _ _ | exact z_or_r _ _ | exact z_xor_r _ _) (fun h89 => ?_) (fun h89 => ?_)
        · refine x_vret dX3_shape_166 rfl ?_
          refine fin J (fun c i q1 q2 => (m1 c i (by omega)).trans (f1 c i q1 q2)) ((m1 p 3 (by omega)).trans f2) (fun w hw => ?_) (fun a b c ha hb hc => ?_)
          · rw [m1 _ _ (by omega), m1 _ _ (by omega)]; exact f3 w hw
          · rw [hn0] at ha ⊢
            rw [hn1] at hb ⊢
            rw [hn2] at hc
            exact m2 a b c ha hb hc
        · exfalso; omega
    exact loop2 0 (by omega) J0 (fun _ _ _ => rfl) (fun a b c _ _ hc => by omega)
  have l1 : ∀ w : Nat, w ≤ 3 → ∀ J, FP p I J → J p 3 = std I p h w → (∀ v : Nat, v < w → J (p + 5) (v : Int) = stW I p h v ∧ J (p + 6) (v : Int) = std I p h v) → Rn G mtX3_shape Q 7 [(0, mr p), (1, mi (w : Int))] [] shX J L R := by
    refine lpn 3 (fun w hw ih => ?_) ?_
    · intro J f1 f2 f3
      have jp1 : J p 1 = I p 1 := f1 p 1 (by omega) (by omega)
      have jh0 : J h 0 = I h 0 := f1 h 0 (by omega) (by omega)
      have jh3 : J (h + 3) (w : Int) = I (h + 3) (w : Int) := f1 (h + 3) w (by omega) (by omega)
      refine x_iload_n dX3_shape_7 1 rfl rfl ?_
      refine x_iconst dX3_shape_8 ?_
      refine x_ic_ge (tgt := 78) dX3_shape_9 (by decide) (by first | omega | exact z_and_r _ _ | exact z_or_r _ _ | exact z_xor_r _ _) (fun h9 => ?_) (fun h9 => ?_)
      · exfalso; omega
      · refine x_aload_n dX3_shape_12 0 rfl rfl ?_
        refine x_getR dX3_shape_13 flX3_28 (shP0 hp) rfl hp.2.2.2.2.2.1 ?_
        refine x_iload_n dX3_shape_16 1 rfl rfl ?_
        refine x_iload_n dX3_shape_17 1 rfl rfl ?_
        refine x_aload_n dX3_shape_18 0 rfl rfl ?_
        refine x_getI dX3_shape_19 flX3_49 (shP0 hp) rfl ?_
        refine x_ic_ge (tgt := 45) dX3_shape_22 (by decide) (by first | omega | exact z_and_r _ _ | exact z_or_r _ _ | exact z_xor_r _ _) (fun h22 => ?_) (fun h22 => ?_)
        · refine x_iconst dX3_shape_45 ?_
          refine x_iast dX3_shape_46 (shP5 hp) (by omega) ?_
          refine x_aload_n dX3_shape_47 0 rfl rfl ?_
          refine x_getR dX3_shape_48 flX3_31 (shP0 hp) rfl hp.2.2.2.2.2.2.1 ?_
          refine x_iload_n dX3_shape_51 1 rfl rfl ?_
          refine x_aload_n dX3_shape_52 0 rfl rfl ?_
          refine y_getI dX3_shape_53 flX3_73 (shP0 hp) rfl (m_up_ne (by omega) _) ?_
          refine x_iast dX3_shape_56 (shP6 hp) (by omega) ?_
          refine x_aload_n dX3_shape_57 0 rfl rfl ?_
          refine x_dup dX3_shape_58 rfl ?_
          refine y_getI dX3_shape_59 flX3_73 (shP0 hp) rfl (((m_up_ne (by omega) _).trans (m_up_ne (by omega) _))) ?_
          refine x_aload_n dX3_shape_62 0 rfl rfl ?_
          refine x_getR dX3_shape_63 flX3_28 (shP0 hp) rfl hp.2.2.2.2.2.1 ?_
          refine x_iload_n dX3_shape_66 1 rfl rfl ?_
          refine y_iald dX3_shape_67 (shP5 hp) (by omega) (m_up_ne (by omega) _) ?_
          refine x_imul dX3_shape_68 ?_
          refine x_putI dX3_shape_69 flX3_73 rfl (shP0 hp) rfl ?_
          refine x_iinc (lv' := [(0, _), (1, _)]) dX3_shape_72 1 rfl rfl rfl ?_
          refine x_goto (tgt := 7) dX3_shape_75 (by decide) ?_
          first
          | (have hc : I p 1 ≤ (w : Int) := by omega
             have hv : (1 : Int) = stW I p h w := by unfold stW; rw [if_neg (by omega)]
             have hs := shp_step hv f1 f2 f3
             exact ih _ hs.1 hs.2.1 hs.2.2)
          | (have hv : J h 0 * J (h + 3) (w : Int) = stW I p h w := by unfold stW; rw [if_pos (by omega), jh0, jh3]
             have hs := shp_step hv f1 f2 f3
             exact ih _ hs.1 hs.2.1 hs.2.2)
        · refine x_aload_n dX3_shape_25 0 rfl rfl ?_
          refine x_getR dX3_shape_26 flX3_9 (shP0 hp) rfl hph ?_
          refine x_getI dX3_shape_29 flX3_76 (shH0 hh) rfl ?_
          refine x_aload_n dX3_shape_32 0 rfl rfl ?_
          refine x_getR dX3_shape_33 flX3_9 (shP0 hp) rfl hph ?_
          refine x_getR dX3_shape_36 flX3_79 (shH0 hh) rfl hh.2.2.2.1 ?_
          refine x_iload_n dX3_shape_39 1 rfl rfl ?_
          refine x_iald dX3_shape_40 (shH3 hh) (by omega) ?_
          refine x_imul dX3_shape_41 ?_
          refine x_goto (tgt := 46) dX3_shape_42 (by decide) ?_
          refine x_iast dX3_shape_46 (shP5 hp) (by omega) ?_
          refine x_aload_n dX3_shape_47 0 rfl rfl ?_
          refine x_getR dX3_shape_48 flX3_31 (shP0 hp) rfl hp.2.2.2.2.2.2.1 ?_
          refine x_iload_n dX3_shape_51 1 rfl rfl ?_
          refine x_aload_n dX3_shape_52 0 rfl rfl ?_
          refine y_getI dX3_shape_53 flX3_73 (shP0 hp) rfl (m_up_ne (by omega) _) ?_
          refine x_iast dX3_shape_56 (shP6 hp) (by omega) ?_
          refine x_aload_n dX3_shape_57 0 rfl rfl ?_
          refine x_dup dX3_shape_58 rfl ?_
          refine y_getI dX3_shape_59 flX3_73 (shP0 hp) rfl (((m_up_ne (by omega) _).trans (m_up_ne (by omega) _))) ?_
          refine x_aload_n dX3_shape_62 0 rfl rfl ?_
          refine x_getR dX3_shape_63 flX3_28 (shP0 hp) rfl hp.2.2.2.2.2.1 ?_
          refine x_iload_n dX3_shape_66 1 rfl rfl ?_
          refine y_iald dX3_shape_67 (shP5 hp) (by omega) (m_up_ne (by omega) _) ?_
          refine x_imul dX3_shape_68 ?_
          refine x_putI dX3_shape_69 flX3_73 rfl (shP0 hp) rfl ?_
          refine x_iinc (lv' := [(0, _), (1, _)]) dX3_shape_72 1 rfl rfl rfl ?_
          refine x_goto (tgt := 7) dX3_shape_75 (by decide) ?_
          first
          | (have hc : I p 1 ≤ (w : Int) := by omega
             have hv : (1 : Int) = stW I p h w := by unfold stW; rw [if_neg (by omega)]
             have hs := shp_step hv f1 f2 f3
             exact ih _ hs.1 hs.2.1 hs.2.2)
          | (have hv : J h 0 * J (h + 3) (w : Int) = stW I p h w := by unfold stW; rw [if_pos (by omega), jh0, jh3]
             have hs := shp_step hv f1 f2 f3
             exact ih _ hs.1 hs.2.1 hs.2.2)
    · intro J f1 f2 f3
      refine x_iload_n dX3_shape_7 1 rfl rfl ?_
      refine x_iconst dX3_shape_8 ?_
      refine x_ic_ge (tgt := 78) dX3_shape_9 (by decide) (by first | omega | exact z_and_r _ _ | exact z_or_r _ _ | exact z_xor_r _ _) (fun h9 => ?_) (fun h9 => ?_)
      · refine x_iconst dX3_shape_78 ?_
        refine x_istore_n (lv' := [(0, _), (1, _)]) dX3_shape_79 rfl rfl rfl ?_
        refine x_iconst dX3_shape_80 ?_
        refine x_istore_n (lv' := [(0, _), (1, _), (2, _)]) dX3_shape_81 rfl rfl rfl ?_
        exact l2 J f1 f2 f3
      · exfalso; omega
  refine x_aload_n dX3_shape_0 0 rfl rfl ?_
  refine x_iconst dX3_shape_1 ?_
  refine x_putI dX3_shape_2 flX3_73 rfl (shP0 hp) rfl ?_
  refine x_iconst dX3_shape_5 ?_
  refine x_istore_n (lv' := [(0, _), (1, _)]) dX3_shape_6 rfl rfl rfl ?_
  exact l1 0 (by omega) _ (fun c i q1 q2 => by unfold m_up; rw [if_neg q1]) m_up_eq (fun v hv => by omega)
end

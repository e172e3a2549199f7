/-! THE CLASS: Reader, a night. -/
def XNo (h : Nat) (I J : MI) : Prop := ∀ c j, ¬ (c = 17 ∧ (j = 2 ∨ j = 3)) → ¬ (h ≤ c ∧ c ≤ h + 4) → J c j = I c j
theorem XNo.rf (h : Nat) (I : MI) : XNo h I I := fun _ _ _ _ => rfl
theorem XNo.tr {h : Nat} {I J K : MI} (a : XNo h I J) (k : XNo h J K) : XNo h I K := fun c j q q2 => (k c j q q2).trans (a c j q q2)
theorem XS.no {I J : MI} (a : XS I J) (h : Nat) : XNo h I J := fun c j q _ => a c j q
theorem XNo.xt {h : Nat} {I J : MI} {R : MR} {tx n : Nat} {B : Nat → Int} (a : XNo h I J) (hh : isN R h) (k : XT tx B n I R) : XT tx B n J R := by
  obtain ⟨k1, k2, k3, k4, k5, k6, k7⟩ := k
  have := hh.1
  exact ⟨k1, k2, by rw [a 17 1 (by omega) (by omega)]; exact k3, k4, fun i hi => by rw [a tx _ (by omega) (by omega)]; exact k5 i hi, k6, k7⟩
theorem XNo.hk {nn h : Nat} {I J κ : MI} {R : MR} (a : XNo nn I J) (hnn : isN R nn) (hh : isH R h) (k : HK h I κ) : HK h J κ := by
  have := hh.1
  have := hnn.1
  have e : ∀ j, J h j = I h j := fun j => a h j (by omega) (by omega)
  exact ⟨by rw [e]; exact k.1, by rw [e]; exact k.2.1, by rw [e]; exact k.2.2.1, by rw [e]; exact k.2.2.2.1, by rw [e]; exact k.2.2.2.2⟩
def NX (h : Nat) (es : List EV) (J : MI) : Prop := J h 0 = (es.length : Int) ∧ ∀ (i : Nat) q, es[i]? = some q → J (h + 1) (i : Int) = q.1 ∧ J (h + 2) (i : Int) = q.2.1 ∧ J (h + 3) (i : Int) = q.2.2.1 ∧ J (h + 4) (i : Int) = q.2.2.2
theorem NX.xs {h : Nat} {es : List EV} {I J : MI} {R : MR} (hh : isN R h) (k : NX h es I) (a : XS I J) : NX h es J := by
  have := hh.1
  have e : ∀ c j, h ≤ c → J c j = I c j := fun c j q => a c j (by omega)
  exact ⟨by rw [e _ _ (by omega)]; exact k.1, fun i q hq => by rw [e _ _ (by omega), e _ _ (by omega), e _ _ (by omega), e _ _ (by omega)]; exact k.2 i q hq⟩
theorem snoc_g {α : Type} {l : List α} {a : α} {i : Nat} {q : α} (hq : (l ++ [a])[i]? = some q) : (i < l.length ∧ l[i]? = some q) ∨ (i = l.length ∧ q = a) := by
  rcases Nat.lt_or_ge i l.length with c | c
  · rw [List.getElem?_append_left c] at hq; exact Or.inl ⟨c, hq⟩
  · rw [List.getElem?_append_right c] at hq
    have h0 : i - l.length = 0 := by
      apply Classical.byContradiction
      intro c2
      rw [List.getElem?_eq_none (by simp; omega)] at hq
      exact absurd hq (by simp)
    rw [h0] at hq
    have h1 : a = q := Option.some.inj hq
    exact Or.inr ⟨by omega, h1.symm⟩
theorem NX.ad {h : Nat} {es : List EV} {I : MI} (k : NX h es I) (e : EV) : NX h (es ++ [e]) (adN I h e.1 e.2.1 e.2.2.1 e.2.2.2) := by
  obtain ⟨k1, k2⟩ := k
  unfold adN
  rw [k1]
  refine ⟨by rw [m_up_eq, List.length_append]; rfl, fun i q hq => ?_⟩
  rcases snoc_g hq with ⟨c, d⟩ | ⟨rfl, rfl⟩
  · have hne : ¬ (i : Int) = (es.length : Int) := by omega
    have h4 := k2 i q d
    refine ⟨?_, ?_, ?_, ?_⟩
    · rw [m_up_ne (by omega), m_up_ne (by omega), m_up_ne (by omega), m_up_ne (by omega), m_up_nj hne]; exact h4.1
    · rw [m_up_ne (by omega), m_up_ne (by omega), m_up_ne (by omega), m_up_nj hne, m_up_ne (by omega)]; exact h4.2.1
    · rw [m_up_ne (by omega), m_up_ne (by omega), m_up_nj hne, m_up_ne (by omega), m_up_ne (by omega)]; exact h4.2.2.1
    · rw [m_up_ne (by omega), m_up_nj hne, m_up_ne (by omega), m_up_ne (by omega), m_up_ne (by omega)]; exact h4.2.2.2
  · refine ⟨?_, ?_, ?_, ?_⟩
    · rw [m_up_ne (by omega), m_up_ne (by omega), m_up_ne (by omega), m_up_ne (by omega), m_up_eq]
    · rw [m_up_ne (by omega), m_up_ne (by omega), m_up_ne (by omega), m_up_eq]
    · rw [m_up_ne (by omega), m_up_ne (by omega), m_up_eq]
    · rw [m_up_ne (by omega), m_up_eq]
theorem adN_no (I : MI) (h : Nat) (k a b t : Int) : XNo h I (adN I h k a b t) := fun c j _ q => by
  unfold adN
  rw [m_up_ne (by omega), m_up_ne (by omega), m_up_ne (by omega), m_up_ne (by omega), m_up_ne (by omega)]
section
variable {G : GT} {I L κ : MI} {R : MR} {tx n p h nn : Nat} {B : Nat → Int} {f R0 : Int}

set_option maxHeartbeats 1500000 in
theorem s_X4_readNight  (hX : XT tx B n I R) (hh : isH R h) (hnn : isN R nn) (hK : HK h I κ) (hH : iHs κ) (hp : I 17 2 = 0) (hf : I 17 3 = 0) : Sp G mtX4_readNight [mr 17, mr h, mr nn] shX I L R (qv (fun I' L' R' => ∃ (q : Nat) (g : Int), I' 17 2 = (q : Int) ∧ I' 17 3 = g ∧ (g = 0 ∧ (nigF B κ n).1 = -9 ∧ NX nn (nigF B κ n).2.2 I' ∧ (nigF B κ n).2.2.length ≤ 20 ∨ g = 1 ∧ (nigF B κ n).1 = (q : Int)) ∧ XNo nn I I' ∧ L = L' ∧ R = R')) := by
  refine Sp.of pnX4_readNight rfl ?_
  show Rn G mtX4_readNight _ 0 [(0, mr 17), (1, mr h), (2, mr nn)] [] shX I L R
  generalize hQ : (qv (fun I' L' R' => ∃ (q : Nat) (g : Int), I' 17 2 = (q : Int) ∧ I' 17 3 = g ∧ (g = 0 ∧ (nigF B κ n).1 = -9 ∧ NX nn (nigF B κ n).2.2 I' ∧ (nigF B κ n).2.2.length ≤ 20 ∨ g = 1 ∧ (nigF B κ n).1 = (q : Int)) ∧ XNo nn I I' ∧ L = L' ∧ R = R')) = Q
  have hh1 := hh.1
  have hn1 := hnn.1
  obtain ⟨x1, x2, x3, x4, x5, x6, x7⟩ := id hX
  obtain ⟨rr, hrr⟩ : ∃ rr, rr = nigF B κ n := ⟨_, rfl⟩
  have hsk : ∀ q, q ≤ 200 → q ≤ skp B q ∧ (skp B q = q ∨ skp B q ≤ n) := fun q _ => by
    have := skF_r B (n := (n : Int)) (fun i hi => x6 i (by omega)) 100 q
    unfold skp
    omega
  have ex : ∀ (J : MI) (q : Nat) (g : Int), J 17 2 = (q : Int) → J 17 3 = g → (g = 0 ∧ rr.1 = -9 ∧ NX nn rr.2.2 J ∧ rr.2.2.length ≤ 20 ∨ g = 1 ∧ rr.1 = (q : Int)) → XNo nn I J → ∀ i, Rn G mtX4_readNight Q 32 [(0, mr 17), (1, mr h), (2, mr nn), (3, mi i)] [] shX J L R := by
    intro J q g g1 g2 g3 g4 i
    refine x_vret dX4_readNight_32 rfl ?_
    rw [← hQ, ← hrr]
    exact ⟨rfl, q, g, g1, g2, g3, g4, rfl, rfl⟩
  have dead : ∀ (J : MI) (q : Nat), J 17 2 = (q : Int) → J 17 3 = 1 → q ≤ 200 → rr.1 = (q : Int) → XNo nn I J → ∀ i, rI i → Rn G mtX4_readNight Q 7 [(0, mr 17), (1, mr h), (2, mr nn), (3, mi i)] [] shX J L R := by
    intro J q g1 g2 g3 g4 g5 i hi
    have hXJ := g5.xt hnn hX
    have e32 := ex J q 1 g1 g2 (Or.inr ⟨rfl, g4⟩) g5 i
    refine x_iload_n dX4_readNight_7 3 rfl rfl ?_
    refine x_bipush dX4_readNight_8 (by decide) ?_
    refine x_ic_ge (tgt := 32) dX4_readNight_10 (by decide) (by first | omega | exact z_and_r _ _ | exact z_or_r _ _ | exact z_xor_r _ _) (fun h10 => ?_) (fun h10 => ?_)
    · first
      | (have k1b := k1
         rw [if_neg (by decide)] at k1b
         exact ex I14 q 1 k1b k2 (Or.inr ⟨rfl, g4⟩) (g5.tr (k3.no nn)) _)
      | exact e32
    · refine x_aload_n dX4_readNight_13 0 rfl rfl ?_
      refine x_callVi (as := []) dX4_readNight_14 lvX4_37 rfl rfl rfl rfl rfl rfl rfl ⟨rfl, rfl⟩ (s_X4_findItem (p := q) hXJ g1 g2 (Or.inr rfl) (by omega)) (fun z14 I14 L14 R14 hq14 => ?_)
      obtain ⟨rfl, k1, k2, k3, rfl, rfl⟩ := hq14
      refine y_ifb_eq (tgt := 32) dX4_readNight_17 (by decide) (fun h17 => ?_) (fun h17 => ?_)
      · first
        | (have k1b := k1
           rw [if_neg (by decide)] at k1b
           exact ex I14 q 1 k1b k2 (Or.inr ⟨rfl, g4⟩) (g5.tr (k3.no nn)) _)
        | exact e32
      · exfalso
        have := (show (1 : Int) = 0 ∧ skp B q < n by assumption).1
        omega
  have loop : ∀ i : Nat, i ≤ 80 → ∀ (J : MI) (q : Nat) (es : List EV), J 17 2 = (q : Int) → J 17 3 = 0 → XNo nn I J → NX nn es J → 4 * es.length ≤ q → es.length ≤ 20 → i ≤ q → q ≤ 100 → rr = nigL B κ n (81 - i) (skp B q, es) → Rn G mtX4_readNight Q 7 [(0, mr 17), (1, mr h), (2, mr nn), (3, mi (i : Int))] [] shX J L R := by
    refine lpn 80 (fun i hi ih => ?_) ?_
    · intro J q es g1 g2 g3 g4 g5 g6 g7 g8 g9
      have hXJ := g3.xt hnn hX
      have hsq := hsk q (by omega)
      rw [show 81 - i = (81 - (i + 1)) + 1 by omega] at g9
      refine x_iload_n dX4_readNight_7 3 rfl rfl ?_
      refine x_bipush dX4_readNight_8 (by decide) ?_
      refine x_ic_ge (tgt := 32) dX4_readNight_10 (by decide) (by first | omega | exact z_and_r _ _ | exact z_or_r _ _ | exact z_xor_r _ _) (fun h10 => ?_) (fun h10 => ?_)
      · first
        | (exfalso; omega)
        | (have hge : n ≤ skp B q := by
             apply Classical.byContradiction
             intro c
             exact absurd (⟨rfl, by omega⟩ : (0 : Int) = 0 ∧ skp B q < n) (by assumption)
           rw [nigL_e hge] at g9
           exact ex I14 (skp B q) 0 k1 k2 (Or.inl ⟨rfl, by rw [g9], by rw [g9]; exact g4b, by rw [g9]; exact g6⟩) (g3.tr (k3.no nn)) _)
      · refine x_aload_n dX4_readNight_13 0 rfl rfl ?_
        refine x_callVi (as := []) dX4_readNight_14 lvX4_37 rfl rfl rfl rfl rfl rfl rfl ⟨rfl, rfl⟩ (s_X4_findItem (p := q) hXJ g1 g2 (Or.inl rfl) (by omega)) (fun z14 I14 L14 R14 hq14 => ?_)
        obtain ⟨rfl, k1, k2, k3, rfl, rfl⟩ := hq14
        rw [if_pos rfl] at k1
        have g4b := g4.xs hnn k3
        refine y_ifb_eq (tgt := 32) dX4_readNight_17 (by decide) (fun h17 => ?_) (fun h17 => ?_)
        · first
          | (exfalso; omega)
          | (have hge : n ≤ skp B q := by
               apply Classical.byContradiction
               intro c
               exact absurd (⟨rfl, by omega⟩ : (0 : Int) = 0 ∧ skp B q < n) (by assumption)
             rw [nigL_e hge] at g9
             exact ex I14 (skp B q) 0 k1 k2 (Or.inl ⟨rfl, by rw [g9], by rw [g9]; exact g4b, by rw [g9]; exact g6⟩) (g3.tr (k3.no nn)) _)
        · refine x_aload_n dX4_readNight_20 0 rfl rfl ?_
          refine x_aload_n dX4_readNight_21 1 rfl rfl ?_
          refine x_aload_n dX4_readNight_22 2 rfl rfl ?_
          refine x_callVv (as := [_, _]) dX4_readNight_23 lvX4_61 rfl rfl rfl rfl rfl rfl rfl ⟨rfl, rfl⟩ (s_X4_readEvent (κ := κ) (k3.xt hXJ) hh hnn ((g3.tr (k3.no nn)).hk hnn hh hK) hH k1 k2 (by have : skp B q < n := (show (0 : Int) = 0 ∧ skp B q < n by assumption).2; omega) (by have : skp B q < n := (show (0 : Int) = 0 ∧ skp B q < n by assumption).2; have := g4b.1; omega)) (fun I23 L23 R23 hq23 => ?_)
          obtain ⟨J9, m1, m2, m3, m4, rfl, rfl⟩ := hq23
          refine x_iinc (lv' := [(0, _), (1, _), (2, _), (3, _)]) dX4_readNight_26 3 rfl rfl rfl ?_
          refine x_goto (tgt := 7) dX4_readNight_29 (by decide) ?_
          have hlt : skp B q < n := (show (0 : Int) = 0 ∧ skp B q < n by assumption).2
          have hr := evP_r B κ (skp B q)
          have hx := (g3.tr (k3.no nn)).tr (m1.no nn)
          have hx9 := g4b.xs hnn m1
          by_cases hk : (evP B κ (skp B q)).1 = true
          · have hs := hr.2.2 hk
            rw [nigL_t (by show ¬ n ≤ skp B q; omega) hk] at g9
            simp only at g9
            rw [if_pos hk] at m3 m4
            rw [m4]
            refine ih _ _ _ ?_ ?_ (hx.tr (adN_no _ _ _ _ _ _)) (hx9.ad _) ?_ ?_ (by omega) (by omega) g9
            · unfold adN; rw [m_up_ne (by omega), m_up_ne (by omega), m_up_ne (by omega), m_up_ne (by omega), m_up_ne (by omega)]; exact m2
            · unfold adN; rw [m_up_ne (by omega), m_up_ne (by omega), m_up_ne (by omega), m_up_ne (by omega), m_up_ne (by omega)]; exact m3
            · rw [List.length_append]; show 4 * (es.length + 1) ≤ _; omega
            · rw [List.length_append]; show es.length + 1 ≤ 20; omega
          · rw [nigL_f (by show ¬ n ≤ skp B q; omega) hk] at g9
            rw [if_neg hk] at m3 m4
            rw [m4]
            exact dead J9 _ m2 m3 (by omega) (by rw [g9]) hx _ (by omega)
    · intro J q es g1 g2 g3 g4 g5 g6 g7 g8 g9
      have hsq := hsk q (by omega)
      rw [nigL_e (by show n ≤ skp B q; omega)] at g9
      have e32 := ex J q 0 g1 g2 (Or.inl ⟨rfl, by rw [g9], by rw [g9]; exact g4, by rw [g9]; exact g6⟩) g3 (80 : Nat)
      refine x_iload_n dX4_readNight_7 3 rfl rfl ?_
      refine x_bipush dX4_readNight_8 (by decide) ?_
      refine x_ic_ge (tgt := 32) dX4_readNight_10 (by decide) (by first | omega | exact z_and_r _ _ | exact z_or_r _ _ | exact z_xor_r _ _) (fun h10 => ?_) (fun h10 => ?_)
      · exact e32
      · exfalso; omega
  refine x_aload_n dX4_readNight_0 2 rfl rfl ?_
  refine x_iconst dX4_readNight_1 ?_
  refine x_putI dX4_readNight_2 flX4_56 rfl (shN0 hnn) rfl ?_
  refine x_iconst dX4_readNight_5 ?_
  refine x_istore_n (lv' := [(0, _), (1, _), (2, _), (3, _)]) dX4_readNight_6 rfl rfl rfl ?_
  refine loop 0 (by omega) (m_up I nn 0 0) 0 [] (by rw [m_up_ne (by omega)]; exact hp) (by rw [m_up_ne (by omega)]; exact hf) (fun c j q1 q2 => m_up_ne (by omega) _) ⟨m_up_eq, fun i q hq => by simp at hq⟩ (by simp) (by simp) (by omega) (by omega) hrr
end

/-! THE CLASS'S FACE: what a call leaves. -/
theorem okP_f {I J : MI} {p h : Nat} (e : ∀ c i, ((p ≤ c ∧ c ≤ p + 7) ∨ (h ≤ c ∧ c ≤ h + 4)) → J c i = I c i) (k : okP I h) : okP J h := by
  unfold okP at k ⊢
  rw [e h 0 (by omega), e h 2 (by omega)]
  exact ⟨k.1, k.2.1, fun w hw => by rw [e (h + 3) _ (by omega)]; exact k.2.2 w hw⟩
theorem okD_f {I J : MI} {p h : Nat} (e : ∀ c i, ((p ≤ c ∧ c ≤ p + 7) ∨ (h ≤ c ∧ c ≤ h + 4)) → J c i = I c i) (k : okD I h) : okD J h := by
  unfold okD at k ⊢
  rw [e h 0 (by omega), e h 1 (by omega)]
  exact ⟨k.1, fun w hw => by rw [e (h + 1) _ (by omega), e (h + 2) _ (by omega)]; exact k.2 w hw⟩
theorem SHP_f {I J : MI} {p h : Nat} (e : ∀ c i, ((p ≤ c ∧ c ≤ p + 7) ∨ (h ≤ c ∧ c ≤ h + 4)) → J c i = I c i) (s : SHP p h I) : SHP p h J := by
  have c1 := e p 1 (by omega)
  have c0 := e h 0 (by omega)
  have c3 : ∀ i, J (h + 3) i = I (h + 3) i := fun i => e _ _ (by omega)
  refine ⟨?_, fun w hw => ?_, fun a b c ha hb hc => ?_⟩
  · rw [e p 3 (by omega), std_c c1 c0 c3]
    exact s.1
  · rw [e (p + 5) _ (by omega), e (p + 6) _ (by omega), std_c c1 c0 c3, stW_c c1 c0 c3]
    exact s.2.1 w hw
  · rw [stW_c c1 c0 c3] at ha hb hc
    rw [stW_c c1 c0 c3, stW_c c1 c0 c3, e (p + 7) _ (by omega)]
    unfold sp3
    rw [spX_c c1 c0, spX_c c1 c0, spX_c c1 c0]
    exact s.2.2 a b c ha hb hc
theorem PQ_f {I J : MI} {p h n : Nat} (e : ∀ c i, ((p ≤ c ∧ c ≤ p + 7) ∨ (h ≤ c ∧ c ≤ h + 4)) → J c i = I c i) (s : PQ I p h n) : PQ J p h n := by
  obtain ⟨s1, s2, s3, s4, s5, s6, s7, s8⟩ := s
  refine ⟨SHP_f e s1, okP_f (p := p) e s2, okD_f (p := p) e s3, ?_, ?_, ?_, ?_, fun t ht => ?_⟩
  · rw [e p 1 (by omega), e h 2 (by omega)]; exact s4
  · rw [e p 3 (by omega)]; exact s5
  · rw [e h 3 (by omega)]; exact s6
  · rw [e h 4 (by omega)]; exact s7
  · rw [e h 3 (by omega)] at ht
    rw [e (p + 1) _ (by omega)]; exact s8 t ht
theorem PK_f {I J κ : MI} {p h n : Nat} (e : ∀ c i, ((p ≤ c ∧ c ≤ p + 7) ∨ (h ≤ c ∧ c ≤ h + 4)) → J c i = I c i) (k : PK I p h n κ) : PK J p h n κ := by
  obtain ⟨k1, k2, k3, k4, k5, k8, k9, k10⟩ := k
  refine ⟨PQ_f e k1, k2, k3, ?_, ?_, fun d hd => ?_, fun w hw => ?_, fun t ht => ?_⟩
  · rw [e p 1 (by omega)]; exact k4
  · rw [e h 0 (by omega), e h 1 (by omega), e h 3 (by omega)]; exact k5
  · rw [e h 1 (by omega)] at hd
    rw [e (h + 1) _ (by omega), e (h + 2) _ (by omega)]; exact k8 d hd
  · rw [e p 1 (by omega)] at hw
    rw [e (h + 3) _ (by omega)]; exact k9 w hw
  · rw [e h 3 (by omega)] at ht
    obtain ⟨m1, m2, m3, m4, m5, m6⟩ := k10 t ht
    rw [e (p + 1) _ (by omega), e (p + 2) _ (by omega), e (p + 3) _ (by omega), e (p + 4) _ (by omega), e p 1 (by omega), e h 0 (by omega)]
    exact ⟨m1, m2, m3, m4, m5, m6⟩
theorem sgX_f {I J : MI} {p h : Nat} (e : ∀ c i, ((p ≤ c ∧ c ≤ p + 7) ∨ (h ≤ c ∧ c ≤ h + 4)) → J c i = I c i) (j : Nat) : sgX J p h j = sgX I p h j := by
  have eW : ∀ w, nW J p h w = nW I p h w := fun w => by unfold nW; rw [stW_c (e _ _ (by omega)) (e _ _ (by omega)) (fun i => e _ _ (by omega))]
  have eP : ∀ w s, plX J p h w s = plX I p h w s := fun w s => by unfold plX; rw [e p 1 (by omega), e h 0 (by omega)]
  unfold sgX
  rw [eW, eW, eP, eP, eP]
theorem PKR_f {I J κ : MI} {p h n : Nat} (e : ∀ c i, ((p ≤ c ∧ c ≤ p + 7) ∨ (h ≤ c ∧ c ≤ h + 4)) → J c i = I c i) (k : PKR I p h n κ) : PKR J p h n κ := by
  refine ⟨PK_f e k.1, fun t ht => ?_⟩
  rw [e h 3 (by omega)] at ht
  have := k.2 t ht
  unfold hRd at this ⊢
  rw [e p 2 (by omega), e (p + 1) _ (by omega)]
  exact this

/-- the sets within the plan's cells alone -/
theorem CC.fr {I L I' L' M : MI} {R R' : MR} {h : Nat} (k : CC I L R M h) (e : ∀ c i, ((42 ≤ c ∧ c ≤ 49) ∨ (h ≤ c ∧ c ≤ h + 4) ∨ (25 ≤ c ∧ c ≤ 28)) → I' c i = I c i) (e0 : ∀ i, (i = 10 ∨ i = 11 ∨ i = 12) → I' 0 i = I 0 i) (hR : R' 42 0 = R 42 0) (hL : ∀ i, L' 24 i = L 24 i) : CC I' L' R' M h := by
  have ee : ∀ c i, ((42 ≤ c ∧ c ≤ 42 + 7) ∨ (h ≤ c ∧ c ≤ h + 4)) → I' c i = I c i := fun c i q => e c i (by omega)
  unfold CC
  rw [e0 10 (by omega), e0 11 (by omega), e0 12 (by omega), hR]
  refine ⟨k.1, fun q => ?_⟩
  obtain ⟨k1, k2, n, k3, k4, k5, k6⟩ := k.2 q
  refine ⟨k1, k2, n, PKR_f ee k3, by rw [e 42 4 (by omega)]; exact k4, fun q2 t ht h12 j hj => ?_, fun q2 => ?_⟩
  · rw [inX_c hL, sgX_f ee]
    exact k5 q2 t ht h12 j hj
  · obtain ⟨m1, m2, m3⟩ := k6 q2
    refine ⟨m1, fun t ht j hj => ?_, fun t ht => ?_⟩
    · rw [inX_c hL, sgX_f ee]
      exact m2 t ht j hj
    · unfold NTS
      rw [e 27 _ (by omega), e 28 _ (by omega)]
      refine ⟨fun w hw b hb => ?_, (m3 t ht).2⟩
      rw [e 25 _ (by omega), e 26 _ (by omega)]
      exact (m3 t ht).1 w hw b hb
theorem Sp.imp {G : GT} {m : MT} {as : List MV} {sh : MS} {I L : MI} {R : MR} {P Q : Option MV → MI → MI → MR → Prop} (h : Sp G m as sh I L R P) (k : ∀ v I' L' R', P v I' L' R' → Q v I' L' R') : Sp G m as sh I L R Q := h.mono k
/-- the class and the reference hold the same -/
def CR (I L : MI) (R : MR) (M N : MI) : Prop := ∃ h h', CO I L R M N h h' ∧ CC I L R M h
theorem CO.h32 {I L M N : MI} {R : MR} {h h' : Nat} (q : CO I L R M N h h') : h = 32 ∨ h = 37 := by
  have := q.2.1.2.2
  omega
/-- a finding met, on both sides -/
theorem mt_ok {I L M N : MI} {R : MR} {h h' : Nat} (co : CO I L R M N h h') (cc : CC I L R M h) {f : Int} (hf : 1 ≤ f ∧ f ≤ 5) : CO (m_up (m_up I 0 14 f) 68 f (I 68 f + 1)) L R (a_mt M f) N h h' ∧ CC (m_up (m_up I 0 14 f) 68 f (I 68 f + 1)) L R (a_mt M f) h := by
  have h32 := co.h32
  have hn : HN M (a_mt M f) := ⟨fun c j q => by unfold a_mt; rw [m_up_ne (by omega), m_up_ne (by omega)], fun j q => by unfold a_mt; rw [m_up_ne (by omega), m_up_nj (by omega)]⟩
  have am : ∀ c j, c ≠ 0 → c ≠ 1 → a_mt M f c j = M c j := fun c j h1 h2 => by unfold a_mt; rw [m_up_ne h2, m_up_ne h1]
  have im : ∀ c j, c ≠ 0 → c ≠ 68 → m_up (m_up I 0 14 f) 68 f (I 68 f + 1) c j = I c j := fun c j h1 h2 => by rw [m_up_ne h2, m_up_ne h1]
  have i0 : ∀ j, j ≠ 14 → m_up (m_up I 0 14 f) 68 f (I 68 f + 1) 0 j = I 0 j := fun j h1 => by rw [m_up_ne (by decide), m_up_nj h1]
  refine ⟨?_, (cc.fr (fun c i q => im c i (by omega) (by omega)) (fun i q => i0 i (by omega)) rfl (fun _ => rfl)).hn hn⟩
  obtain ⟨q1, q2, q5, q6, ⟨j1, j2, j3, j4, j5⟩, q8, q9, q10, q11, ⟨q12, q13, q14⟩, q15⟩ := co
  have k8 : HRL (m_up (m_up I 0 14 f) 68 f (I 68 f + 1)) M h := by
    unfold HRL
    simp only [im h _ (show h ≠ 0 by omega) (show h ≠ 68 by omega), im (h + 1) _ (show h + 1 ≠ 0 by omega) (show h + 1 ≠ 68 by omega), im (h + 2) _ (show h + 2 ≠ 0 by omega) (show h + 2 ≠ 68 by omega), im (h + 3) _ (show h + 3 ≠ 0 by omega) (show h + 3 ≠ 68 by omega), im (h + 4) _ (show h + 4 ≠ 0 by omega) (show h + 4 ≠ 68 by omega)]
    exact q8
  have k9 : NRL (m_up (m_up I 0 14 f) 68 f (I 68 f + 1)) M 58 := by
    unfold NRL
    simp only [im 58 _ (by decide) (by decide), im (58 + 1) _ (by decide) (by decide), im (58 + 2) _ (by decide) (by decide), im (58 + 3) _ (by decide) (by decide), im (58 + 4) _ (by decide) (by decide)]
    exact q9
  refine ⟨q1, q2, q5, ?_, ⟨hn.h j1, hn.e j2, hn.l j3, ?_, ?_⟩, hn.hr k8, hn.nr k9, fun r hr => ?_, fun t ht => ?_, ⟨?_, ?_, fun g hg => ?_⟩, q15⟩
  · rw [im 19 12 (by decide) (by decide), im 19 15 (by decide) (by decide)]; exact q6
  · unfold iRows; simp only [am 2 _ (by decide) (by decide), am 3 _ (by decide) (by decide)]; exact j4
  · unfold iTexts; simp only [am 5 _ (by decide) (by decide), am 6 _ (by decide) (by decide)]; exact j5
  · simp only [am 2 _ (by decide) (by decide), am 3 _ (by decide) (by decide), im 9 _ (by decide) (by decide), im (3 + r) _ (show 3 + r ≠ 0 by omega) (show 3 + r ≠ 68 by omega)]
    exact q10 r hr
  · simp only [am 5 _ (by decide) (by decide), am 6 _ (by decide) (by decide), im 16 _ (by decide) (by decide), im (12 + t) _ (show 12 + t ≠ 0 by omega) (show 12 + t ≠ 68 by omega)]
    exact q11 t ht
  · rw [i0 13 (by decide)]
    unfold a_mt
    rw [m_up_ne (by decide), m_up_nj (by decide)]
    exact q12
  · rw [m_up_ne (by decide), m_up_eq]
    unfold a_mt
    rw [m_up_ne (by decide), m_up_eq]
  · obtain ⟨fn, rfl⟩ : ∃ fn : Nat, f = (fn : Int) := ⟨f.toNat, by omega⟩
    unfold a_mt
    by_cases e : g = fn
    · subst e
      rw [m_up_eq, m_up_eq, q14 g (by omega)]
    · rw [m_up_nj (by omega), m_up_ne (show (68 : Nat) ≠ 0 by decide), m_up_nj (by omega), m_up_ne (show (1 : Nat) ≠ 0 by decide)]
      exact q14 g hg
/-- a number told, on both sides -/
theorem tl_ok {I L M N : MI} {R : MR} {h h' : Nat} (co : CO I L R M N h h') (cc : CC I L R M h) (v : Int) : CO (m_up I 0 13 v) L R (a_tl M v) N h h' ∧ CC (m_up I 0 13 v) L R (a_tl M v) h := by
  have h32 := co.h32
  have hn : HN M (a_tl M v) := ⟨fun c j q => by unfold a_tl; rw [m_up_ne (by omega)], fun j q => by unfold a_tl; rw [m_up_nj (by omega)]⟩
  have am : ∀ c j, c ≠ 0 → a_tl M v c j = M c j := fun c j h1 => by unfold a_tl; rw [m_up_ne h1]
  have im : ∀ c j, c ≠ 0 → m_up I 0 13 v c j = I c j := fun c j h1 => by rw [m_up_ne h1]
  have i0 : ∀ j, j ≠ 13 → m_up I 0 13 v 0 j = I 0 j := fun j h1 => m_up_nj h1
  refine ⟨?_, (cc.fr (fun c i q => im c i (by omega)) (fun i q => i0 i (by omega)) rfl (fun _ => rfl)).hn hn⟩
  obtain ⟨q1, q2, q5, q6, ⟨j1, j2, j3, j4, j5⟩, q8, q9, q10, q11, ⟨q12, q13, q14⟩, q15⟩ := co
  have k8 : HRL (m_up I 0 13 v) M h := by
    unfold HRL
    simp only [im h _ (show h ≠ 0 by omega), im (h + 1) _ (show h + 1 ≠ 0 by omega), im (h + 2) _ (show h + 2 ≠ 0 by omega), im (h + 3) _ (show h + 3 ≠ 0 by omega), im (h + 4) _ (show h + 4 ≠ 0 by omega)]
    exact q8
  have k9 : NRL (m_up I 0 13 v) M 58 := by
    unfold NRL
    simp only [im 58 _ (by decide), im (58 + 1) _ (by decide), im (58 + 2) _ (by decide), im (58 + 3) _ (by decide), im (58 + 4) _ (by decide)]
    exact q9
  refine ⟨q1, q2, q5, ?_, ⟨hn.h j1, hn.e j2, hn.l j3, ?_, ?_⟩, hn.hr k8, hn.nr k9, fun r hr => ?_, fun t ht => ?_, ⟨?_, ?_, fun g hg => ?_⟩, q15⟩
  · rw [im 19 12 (by decide), im 19 15 (by decide)]; exact q6
  · unfold iRows; simp only [am 2 _ (by decide), am 3 _ (by decide)]; exact j4
  · unfold iTexts; simp only [am 5 _ (by decide), am 6 _ (by decide)]; exact j5
  · simp only [am 2 _ (by decide), am 3 _ (by decide), im 9 _ (by decide), im (3 + r) _ (show 3 + r ≠ 0 by omega)]
    exact q10 r hr
  · simp only [am 5 _ (by decide), am 6 _ (by decide), im 16 _ (by decide), im (12 + t) _ (show 12 + t ≠ 0 by omega)]
    exact q11 t ht
  · rw [m_up_eq]
    unfold a_tl
    rw [m_up_eq]
  · rw [i0 14 (by decide)]
    unfold a_tl
    rw [m_up_nj (by decide)]
    exact q13
  · rw [im 68 _ (by decide), am 1 _ (by decide)]
    exact q14 g hg


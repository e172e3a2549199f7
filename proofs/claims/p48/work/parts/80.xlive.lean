/-! THE CLASS: the Walks live: sets and notes. -/
def SR (κ : MI) (t s c : Nat) : Prop := s < nst κ ∧ alv κ t s = true ∧ c < mal κ (t : Int) s ∧ vld κ (t : Int) s c = true ∧ alv κ (t + 1) (nxt κ (t : Int) s c) = true
def dD (D : Int × Int × Int) (w : Nat) : Int := if w = 0 then D.1 else if w = 1 then D.2.1 else D.2.2
def dvs (κ : MI) (t s c : Nat) : Int × Int × Int := (dv κ (t : Int) s c 0, dv κ (t : Int) s c 1, dv κ (t : Int) s c 2)
theorem dD_dv (κ : MI) (t s c : Nat) : ∀ w, w < 3 → dD (dvs κ t s c) w = dv κ (t : Int) s c w := ptri rfl rfl rfl
def dA (D : Int × Int × Int) : Int := z_or (z_or D.1 D.2.1) D.2.2
theorem cl_SR {I κ : MI} {p h n t : Nat} (k : PKR I p h n κ) (ht : (t : Int) < I h 3) {V : Nat → Int} (hV : ∀ x, x < n → (V x ≠ 0 ↔ alv κ (t + 1) (sgX I p h x) = true)) {act : Nat → Bool} (hact : ∀ j, j < n → (act j = true ↔ 0 < Fr κ t (sgX I p h j))) (Q : Int × Int × Int → Prop) :
    (∃ q, q ∈ clS I p h (t : Int) act n ∧ V q.2.1.toNat ≠ 0 ∧ Q q.2.2) ↔ ∃ s c, SR κ t s c ∧ Q (dvs κ t s c) := by
  have hl := PK_last k.1
  constructor
  · rintro ⟨⟨j, s⟩, h1, h2, h3⟩
    obtain ⟨m1, m2, m3⟩ := clS_mem k.1.1 (Nat.le_refl n) h1
    obtain ⟨⟨x, hx, ex⟩, -⟩ := stX_mem k.1.1 m1 m3
    have m1' : j < n := m1
    have m2' : act j = true := m2
    have m3' : s ∈ stX I p h (t : Int) j := m3
    have ex' : s.1 = (x : Int) := ex
    have h2' : V s.1.toNat ≠ 0 := h2
    rw [ex', Int.toNat_natCast] at h2'
    have ha := (hV x hx).mp h2'
    have hf := Fr_ok k hx ht (alv_iff.mp ha).1
    obtain ⟨c, c1, c2, c3, c4⟩ := (stp_mem k m1' ht (fun s' D => alv κ (t + 1) s' = true ∧ Q D)).mp ⟨x, s.2, hx, by rw [← ex']; exact m3', hf, ha, h3⟩
    have hs := (sgX_lt k.1 m1').1
    exact ⟨sgX I p h j, c, ⟨hs, alv_b (by omega) hs ((hact j m1').mp m2') c1 c2 c3, c1, c2, c3⟩, c4⟩
  · rintro ⟨s, c, ⟨h1, h2, h3, h4, h5⟩, h6⟩
    obtain ⟨j, hj, rfl⟩ := alv_cl k (by omega) h1 h2
    obtain ⟨x, D, hx, hm, hf, ha, hq⟩ := (stp_mem k hj ht (fun s' D => alv κ (t + 1) s' = true ∧ Q D)).mpr ⟨c, h3, h4, h5, h6⟩
    refine ⟨(j, ((x : Int), D)), ?_, ?_, hq⟩
    · refine List.mem_flatMap.mpr ⟨j, List.mem_range.mpr hj, ?_⟩
      rw [if_pos ((hact j hj).mpr (alv_iff.mp h2).1)]
      exact List.mem_map.mpr ⟨_, hm, rfl⟩
    · show V (x : Int).toNat ≠ 0
      rw [Int.toNat_natCast]
      exact (hV x hx).mpr ha
def NTS (κ I : MI) (t : Nat) : Prop :=
  (∀ w : Nat, w < 3 → ∀ b, b < 32 → (tb (I 25 (31 * (w : Int) + (t : Int))) b = true ↔ ∃ s c, SR κ t s c ∧ tb (dv κ (t : Int) s c w) b = true) ∧ (tb (I 26 (31 * (w : Int) + (t : Int))) b = true ↔ ∀ s c, SR κ t s c → tb (dv κ (t : Int) s c w) b = true)) ∧
  ∀ b, b < 32 → (tb (I 27 (t : Int)) b = true ↔ ∃ s c, SR κ t s c ∧ tb (dA (dvs κ t s c)) b = true) ∧ (tb (I 28 (t : Int)) b = true ↔ ∀ s c, SR κ t s c → tb (dA (dvs κ t s c)) b = true)
theorem NTf.s {I κ A B : MI} {p h n t : Nat} (k : PKR I p h n κ) (ht : (t : Int) < I h 3) {V : Nat → Int} (hV : ∀ x, x < n → (V x ≠ 0 ↔ alv κ (t + 1) (sgX I p h x) = true)) {act : Nat → Bool} (hact : ∀ j, j < n → (act j = true ↔ 0 < Fr κ t (sgX I p h j)))
    (hA : (∀ w : Nat, w < 3 → A 25 (31 * (w : Int) + (t : Int)) = 0 ∧ A 26 (31 * (w : Int) + (t : Int)) = -1) ∧ A 27 (t : Int) = 0 ∧ A 28 (t : Int) = -1) (f : NTf V (t : Int) (clS I p h (t : Int) act n) A B) : NTS κ B t := by
  have c := cl_SR k ht hV hact
  refine ⟨fun w hw b hb => ⟨?_, ?_⟩, fun b hb => ⟨?_, ?_⟩⟩
  · rw [(f.1 w hw b).1, (hA.1 w hw).1, tb_0]
    have c1 := c (fun D => tb (dD D w) b = true)
    simp only [dD_dv κ t _ _ w hw] at c1
    rw [← c1]
    exact ⟨fun z => z.elim (fun z => Bool.noConfusion z) id, Or.inr⟩
  · rw [(f.1 w hw b).2, (hA.1 w hw).2, tb_m1 hb]
    have c1 := c (fun D => ¬ tb (dD D w) b = true)
    simp only [dD_dv κ t _ _ w hw] at c1
    constructor
    · rintro ⟨-, z⟩ s cc hs
      apply Classical.byContradiction
      intro hn
      obtain ⟨q, q1, q2, q3⟩ := c1.mpr ⟨s, cc, hs, hn⟩
      exact q3 (z q q1 q2)
    · intro z
      refine ⟨rfl, fun q q1 q2 => ?_⟩
      apply Classical.byContradiction
      intro hn
      obtain ⟨s, cc, hs, hn2⟩ := c1.mp ⟨q, q1, q2, hn⟩
      exact hn2 (z s cc hs)
  · rw [(f.2.1 b).1, hA.2.1, tb_0]
    have c1 := c (fun D => tb (dA D) b = true)
    rw [← c1]
    exact ⟨fun z => z.elim (fun z => Bool.noConfusion z) id, Or.inr⟩
  · rw [(f.2.1 b).2, hA.2.2, tb_m1 hb]
    have c1 := c (fun D => ¬ tb (dA D) b = true)
    constructor
    · rintro ⟨-, z⟩ s cc hs
      apply Classical.byContradiction
      intro hn
      obtain ⟨q, q1, q2, q3⟩ := c1.mpr ⟨s, cc, hs, hn⟩
      exact q3 (z q q1 q2)
    · intro z
      refine ⟨rfl, fun q q1 q2 => ?_⟩
      apply Classical.byContradiction
      intro hn
      obtain ⟨s, cc, hs, hn2⟩ := c1.mp ⟨q, q1, q2, hn⟩
      exact hn2 (z s cc hs)
theorem fold_one {α : Type} (g : α → Prop) [DecidablePred g] (v : α → Int) : ∀ (l : List α) (w : Int), (w = 0 ∨ w = 1) → (l.foldl (fun w q => if g q then (if v q = 0 then w else 1) else w) w = 0 ∨ l.foldl (fun w q => if g q then (if v q = 0 then w else 1) else w) w = 1) ∧ (l.foldl (fun w q => if g q then (if v q = 0 then w else 1) else w) w ≠ 0 ↔ w ≠ 0 ∨ ∃ q, q ∈ l ∧ g q ∧ v q ≠ 0)
  | [], w, hw => ⟨hw, Or.inl, fun z => z.elim id (fun ⟨q, z, _⟩ => absurd z (List.not_mem_nil))⟩
  | q :: l, w, hw => by
    rw [List.foldl_cons]
    have ih := fold_one g v l (if g q then (if v q = 0 then w else 1) else w) (by split; split; exact hw; exact Or.inr rfl; exact hw)
    refine ⟨ih.1, ?_⟩
    rw [ih.2, ← ex_cons (P := fun q => g q ∧ v q ≠ 0) Iff.rfl, ← or_assoc]
    refine or_congr ?_ Iff.rfl
    by_cases z : g q
    · rw [if_pos z]
      by_cases y : v q = 0
      · rw [if_pos y]
        exact ⟨Or.inl, fun x => x.elim id (fun x => absurd y x.2)⟩
      · rw [if_neg y]
        exact ⟨fun _ => Or.inr ⟨z, y⟩, fun _ => by decide⟩
    · rw [if_neg z]
      exact ⟨Or.inl, fun x => x.elim id (fun x => absurd x.1 z)⟩
theorem ldF_in (L : MI) (a t : Nat) (ha : a ≠ 24) : ∀ n x : Nat, x < n → ldF L a t n a (x : Int) = if inX L x t then 1 else 0
  | n + 1, x, hx => by
    have e : ldF L a t (n + 1) = m_up (ldF L a t n) a (n : Int) (if inX L n t then 1 else 0) := rfl
    rw [e]
    by_cases q : x = n
    · rw [q, m_up_eq]
    · rw [m_up_nj (by omega)]
      exact ldF_in L a t ha n x (by omega)
/-- what lies in the Walks while they live -/
def lvI (I L : MI) (R : MR) (p h n nk : Nat) (κ : MI) (na nb t : Nat) (J K : MI) (S : MR) : Prop :=
  isW S p na nb nk ∧ S p 0 = some h ∧ isH S h ∧ RFw R S ∧ (∀ c i, c < 19 ∨ 29 ≤ c → J c i = I c i) ∧ (J 19 10 = 5 ∧ rI (J 19 12) ∧ rI (J 19 15)) ∧ (∀ c i, c ≠ 24 → ¬ (c = 29 ∨ c = 30 ∨ c = 31) → K c i = L c i) ∧ PKR J p h n κ ∧ ∀ x : Nat, x < n → (K na (x : Int) = 0 ∨ K na (x : Int) = 1) ∧ (K na (x : Int) ≠ 0 ↔ alv κ t (sgX J p h x) = true)
section
variable {G : GT} {I L : MI} {R : MR} {p h na nb nk : Nat}
theorem s_sweepL {κ J K : MI} {S : MR} {n t : Nat} (g : lvI I L R p h n nk κ na nb (t + 1) J K S) (ht : (t : Int) < J h 3) (hset : ∀ j : Nat, j < n → (inX K j t = true ↔ 0 < Fr κ t (sgX J p h j)))
    (hA : (∀ w : Nat, w < 3 → J 25 (31 * (w : Int) + (t : Int)) = 0 ∧ J 26 (31 * (w : Int) + (t : Int)) = -1) ∧ J 27 (t : Int) = 0 ∧ J 28 (t : Int) = -1) :
    Sp G mtX6_sweep [mr 19, mi (t : Int)] shX J K S (qv (fun I' L' R' => lvI I L R p h n nk κ nb na t I' L' R' ∧ (∀ i, L' 24 i = K 24 i) ∧ NTS κ I' t ∧ (∀ i, ¬ (i = (t : Int) ∨ i = 31 + (t : Int) ∨ i = 62 + (t : Int)) → I' 25 i = J 25 i ∧ I' 26 i = J 26 i) ∧ ∀ i, i ≠ (t : Int) → I' 27 i = J 27 i ∧ I' 28 i = J 28 i)) := by
  obtain ⟨hW, hph, hh, r, f, ⟨m0, m12, m15⟩, fl, k, hv⟩ := g
  have hp1 := hW.2.1.1
  have hh1 := hh.1
  have hn1 := hW.2.2.2.2.2.2.1
  have hn2 := hW.2.2.2.2.2.2.2.1
  have hne : na ≠ nb := hW.2.2.2.2.2.2.2.2.2.1
  have hlt := PK_last k.1
  refine (s_X6_sweepV (G := G) hW hph hh k.1.1 ht (by omega) m12 m15 (fun q => by omega) (fun x hx => ?_)).mono (fun v I' L' R' hq => ?_)
  · have := (hv x hx).1
    omega
  · obtain ⟨rfl, e1, e2, ⟨N, hMV, e3⟩, e4, e5, rfl⟩ := hq
    rw [m0, if_pos (Or.inr rfl)] at e3
    have ie : ∀ c i, c ≠ 19 → (m_up J 19 11 (t : Int)) c i = J c i := fun c i q => m_up_ne q i
    have i10 : ∀ i, i ≠ 11 → (m_up J 19 11 (t : Int)) 19 i = J 19 i := fun i q => m_up_nj q
    have e32 : ∀ c i, 32 ≤ c → I' c i = J c i := fun c i q => e1 c i (by omega) (by omega) (by omega)
    have hact : ∀ j, j < n → (acX K na t 1 j = true ↔ 0 < Fr κ t (sgX J p h j)) := fun j hj => by
      unfold acX
      rw [decide_eq_true_eq, ← hset j hj]
      constructor
      · rintro (⟨z, -⟩ | ⟨-, z⟩)
        · exact absurd z (by decide)
        · exact z
      · exact fun z => Or.inr ⟨by decide, z⟩
    have nf := nt_fold (L := K) (p := p) (h := h) (na := na) (nb := nb) (t := (t : Int)) hne (by omega) (clS J p h (t : Int) (acX K na t 1) n) (N, mapL K nb n (fun _ _ => 0)) ((hMV.2.1 19 10 (by omega)).trans ((i10 10 (by decide)).trans m0)) ((hMV.2.1 19 11 (by omega)).trans m_up_eq) (fun i => (mapL_ne (L := K) (a := nb) (n := n) (f := fun _ _ => 0) hne i : mapL K nb n (fun _ _ => 0) na i = K na i))
    rw [← e3] at nf
    have eN : ∀ c i, 24 ≤ c → N c i = J c i := fun c i q => (hMV.1 c i q).trans (ie c i (by omega))
    have hA2 : (∀ w : Nat, w < 3 → N 25 (31 * (w : Int) + (t : Int)) = 0 ∧ N 26 (31 * (w : Int) + (t : Int)) = -1) ∧ N 27 (t : Int) = 0 ∧ N 28 (t : Int) = -1 := by
      rw [eN 27 _ (by omega), eN 28 _ (by omega)]
      exact ⟨fun w hw => by rw [eN 25 _ (by omega), eN 26 _ (by omega)]; exact hA.1 w hw, hA.2⟩
    refine ⟨rfl, ⟨hW.sw, ?_, ?_, (r.up (by omega) _).up (by omega) _, ?_, ⟨?_, ?_, ?_⟩, ?_, PKR_d e32 (by omega) (by omega) k, fun x hx => ?_⟩, fun i => e4 24 i (by omega), nf.s k ht (fun x hx => (hv x hx).2) hact hA2, fun i hi => ?_, fun i hi => ?_⟩
    · rw [m_up_ne (by omega), m_up_ne (by omega)]; exact hph
    · exact (((RFw.rf S).up (by omega) _).up (by omega) _).iH hh
    · intro c i q
      rw [e1 c i (by omega) (by omega) (by omega)]; exact f c i q
    · rw [e1 19 10 (by omega) (by omega) (by omega)]; exact m0
    · rw [e1 19 12 (by omega) (by omega) (by omega)]; exact m12
    · rw [e1 19 15 (by omega) (by omega) (by omega)]; exact m15
    · intro c i q1 q2
      rw [e4 c i (by omega)]; exact fl c i q1 q2
    · have ev := e5 x hx
      rw [m0, if_neg (fun z => z.1 (Or.inr rfl)), if_pos (Or.inr rfl)] at ev
      unfold swV at ev
      rw [i10 10 (by decide), m0, clS_c (I := J) (by omega) (by omega) (fun c i q => ie c i (by omega))] at ev
      have ec : L' nb (x : Int) = (clS J p h (t : Int) (acX K na t 1) n).foldl (fun w q => if q.1 = x then (if K na (q.2.1.toNat : Int) = 0 then w else 1) else w) 0 := by
        rw [ev]
        refine foldl_congr _ _ (fun q _ w => ?_)
        have et : tgm 5 q = q.1 := by unfold tgm; rw [if_pos (Or.inr rfl)]
        have eo : opm (m_up J 19 11 (t : Int)) K p h (fun y => K na (y : Int)) q w = if K na (q.2.1.toNat : Int) = 0 then w else 1 := by
          unfold opm
          rw [i10 10 (by decide), m0, if_neg (by decide), if_neg (by decide), if_neg (by decide), if_neg (by decide), if_neg (by decide)]
        rw [et, eo]
      have fo := fold_one (fun q : Nat × LT => q.1 = x) (fun q : Nat × LT => K na (q.2.1.toNat : Int)) (clS J p h (t : Int) (acX K na t 1) n) 0 (Or.inl rfl)
      rw [← ec] at fo
      refine ⟨fo.1, ?_⟩
      rw [fo.2, sgX_d e32 (by omega) (by omega), alv_s (by omega) (sgX_lt k.1 hx).1]
      constructor
      · rintro (z | ⟨⟨j, s⟩, z1, z2, z3⟩)
        · exact absurd rfl z
        · obtain ⟨y1, y2, y3⟩ := clS_mem k.1.1 (Nat.le_refl n) z1
          have z2' : j = x := z2
          subst z2'
          have y2' : acX K na t 1 j = true := y2
          have y3' : s ∈ stX J p h (t : Int) j := y3
          obtain ⟨⟨y, hy, ey⟩, -⟩ := stX_mem k.1.1 hx y3'
          have z3' : K na (s.1.toNat : Int) ≠ 0 := z3
          rw [ey, Int.toNat_natCast] at z3'
          have ha := (hv y hy).2.mp z3'
          obtain ⟨c, c1, c2, c3⟩ := (stp_mem k hx ht (fun s' _ => alv κ (t + 1) s' = true)).mp ⟨y, s.2, hy, by rw [← ey]; exact y3', Fr_ok k hy ht (alv_iff.mp ha).1, ha⟩
          exact ⟨(hact j hx).mp y2', c, c1, c2, c3⟩
      · rintro ⟨z, c, c1, c2, c3⟩
        obtain ⟨y, D, hy, hm, hf, ha⟩ := (stp_mem k hx ht (fun s' _ => alv κ (t + 1) s' = true)).mpr ⟨c, c1, c2, c3⟩
        refine Or.inr ⟨(x, ((y : Int), D)), ?_, rfl, ?_⟩
        · refine List.mem_flatMap.mpr ⟨x, List.mem_range.mpr hx, ?_⟩
          rw [if_pos ((hact x hx).mpr z)]
          exact List.mem_map.mpr ⟨_, hm, rfl⟩
        · show K na ((y : Int).toNat : Int) ≠ 0
          rw [Int.toNat_natCast]
          exact (hv y hy).2.mpr ha
    · rw [(nf.2.2.1 i hi).1, (nf.2.2.1 i hi).2]
      show N 25 i = J 25 i ∧ N 26 i = J 26 i
      rw [eN 25 _ (by omega), eN 26 _ (by omega)]
      exact ⟨rfl, rfl⟩
    · rw [(nf.2.2.2 i hi).1, (nf.2.2.2 i hi).2]
      show N 27 i = J 27 i ∧ N 28 i = J 28 i
      rw [eN 27 _ (by omega), eN 28 _ (by omega)]
      exact ⟨rfl, rfl⟩
end

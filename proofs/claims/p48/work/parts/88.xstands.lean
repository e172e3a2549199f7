/-! THE CLASS: the Walks: standings. -/
def asI (I L : MI) (R : MR) (p h n nk : Nat) (κ : MI) (w N na nb : Nat) (J K : MI) (S : MR) : Prop :=
  isW S p na nb nk ∧ S p 0 = some h ∧ isH S h ∧ RFw R S ∧ FIw I J ∧ (J 19 10 = 1 ∧ J 19 15 = 1 ∧ J 19 12 = (w : Int)) ∧ K 19 16 = z_shll 1 (N : Int) ∧ (∀ c i, ¬ (c = 19 ∨ c = 29 ∨ c = 30 ∨ c = 31) → K c i = L c i) ∧ PKR J p h n κ ∧ SETS κ J K p h n
theorem asI.wp {I L : MI} {R : MR} {p h n nk : Nat} {κ : MI} {w N na nb : Nat} {J K : MI} {S : MR} (hw : w < 3) (g : asI I L R p h n nk κ w N na nb J K S) : WP I L R J K S := by
  obtain ⟨x1, x2, x3, x4, x5, ⟨y1, y2, y3⟩, x6, x7, x8, x9⟩ := g
  exact ⟨x5, ⟨by omega, by omega⟩, x7, x4, na, nb, nk, x1.t⟩
theorem flX_D {J : MI} {w : Nat} (hw : w < 3) (h : J 19 12 = (w : Int)) (D : Int × Int × Int) : flX J D.1 D.2.1 D.2.2 = dD D w := by
  unfold flX dD
  have : w = 0 ∨ w = 1 ∨ w = 2 := by omega
  rw [h]
  rcases this with rfl | rfl | rfl
  · rfl
  · rfl
  · rfl
def obF (K : MI) (na : Nat) : Nat → Int
  | 0 => 0
  | x + 1 => z_lorl (obF K na x) (K na (x : Int))
theorem tb_obF {K : MI} {na b : Nat} : ∀ n, tbl (obF K na n) b = true ↔ ∃ x : Nat, x < n ∧ tbl (K na (x : Int)) b = true
  | 0 => by
    unfold obF
    rw [tbl_0]
    exact ⟨fun q => Bool.noConfusion q, fun ⟨x, h, _⟩ => by omega⟩
  | n + 1 => by
    unfold obF
    rw [tbl_or, Bool.or_eq_true, tb_obF n]
    constructor
    · rintro (⟨x, h1, h2⟩ | h)
      · exact ⟨x, by omega, h2⟩
      · exact ⟨n, by omega, h⟩
    · rintro ⟨x, h1, h2⟩
      by_cases e : x = n
      · subst e; exact Or.inr h2
      · exact Or.inl ⟨x, by omega, h2⟩
section
variable {G : GT} {I L : MI} {R : MR} {p h na nb nk : Nat}
theorem s_sweepS {κ J K : MI} {S : MR} {n t w N : Nat} (g : asI I L R p h n nk κ w N na nb J K S) (hw : w < us κ) (hN : 1 ≤ N ∧ N ≤ 30) (s : STB κ J p h n w N t (fun x => K na (x : Int))) (ht : (t : Int) < J h 3) :
    Sp G mtX6_sweep [mr 19, mi (t : Int)] shX J K S (qv (fun I' L' R' => asI I L R p h n nk κ w N nb na I' L' R' ∧ STB κ I' p h n w N (t + 1) (fun x => L' nb (x : Int)))) := by
  obtain ⟨hW, hph, hh, r, f, ⟨m0, m15, m12⟩, m16, fl, k, st⟩ := g
  have u := PK_us k.1
  have hp1 := hW.2.1.1
  have hh1 := hh.1
  have hn1 := hW.2.2.2.2.2.2.1
  have hn2 := hW.2.2.2.2.2.2.2.1
  have hlt := PK_last k.1
  have hn := (PQ_n k.1.1).2
  refine (s_sweepG (G := G) hW hph hh k.1.1 ht (Or.inr (Or.inl m0)) (by omega) (by omega) (fun q => by omega) (fun x hx => ?_)).mono (fun v I' L' R' hq => ?_)
  · exact ⟨fun q => absurd m0 q, (s x hx).1⟩
  · obtain ⟨rfl, e1, e2, e4, e5, rfl⟩ := hq
    have e32 : ∀ c i, 32 ≤ c → I' c i = J c i := fun c i q => e1 c i (by omega)
    refine ⟨rfl, ⟨hW.sw, ?_, ?_, (r.up (by omega) _).up (by omega) _, fun c i q => (e1 c i q).trans (f c i q), ⟨(e2 10 (by decide)).trans m0, (e2 15 (by decide)).trans m15, (e2 12 (by decide)).trans m12⟩, (e4 19 16 (by omega)).trans m16, fun c i q => (e4 c i (by omega)).trans (fl c i q), PKR_d e32 (by omega) (by omega) k, SETS_d e32 (by omega) (by omega) (fun i => e4 24 i (by omega)) st⟩, fun x hx => ?_⟩
    · rw [m_up_ne (by omega), m_up_ne (by omega)]; exact hph
    · exact (((RFw.rf S).up (by omega) _).up (by omega) _).iH hh
    · simp only
      have ev := e5 x hx
      rw [m0, if_neg (show ¬ (1 : Int) = 4 by decide), swV_1 (by omega) (by omega) m0, m16] at ev
      have ec : (clS J p h (t : Int) (fun j => decide (K na (j : Int) ≠ 0)) n).foldl (fun w_1 q => if q.2.1.toNat = x then z_lorl w_1 (soX (K na (q.1 : Int)) (z_shll 1 (N : Int)) (flX J q.2.2.1 q.2.2.2.1 q.2.2.2.2)) else w_1) 0 = (clS J p h (t : Int) (fun j => decide (K na (j : Int) ≠ 0)) n).foldl (fun v q => if q.2.1.toNat = x then z_lorl v (soX (K na (q.1 : Int)) (z_shll 1 (N : Int)) (dD q.2.2 w)) else v) 0 := foldl_congr _ _ (fun q _ v => by rw [flX_D (D := q.2.2) (by omega) m12])
      rw [ec] at ev
      have esy : syX J K p x (t + 1) = true ↔ alv κ (t + 1) (sgX J p h x) = true := by
        unfold syX
        rw [if_neg (by omega), st (t + 1) (by omega) x (by omega)]
        exact ⟨fun z => z.2, fun z => ⟨hx, z⟩⟩
      rw [sgX_d e32 (by omega) (by omega)]
      by_cases q : alv κ (t + 1) (sgX J p h x) = true
      · rw [if_neg (fun z => z.2 (esy.mpr q))] at ev
        rw [ev]
        exact ⟨or_fold_r _ _ _ _ (by omega), fun b hb => s.st k ht hw hN hx q hb⟩
      · rw [if_pos ⟨by decide, fun z => q (esy.mp z)⟩] at ev
        rw [ev]
        refine ⟨by omega, fun b hb => ?_⟩
        rw [tbl_0]
        constructor
        · intro z; exact Bool.noConfusion z
        · rintro (z | ⟨-, z⟩)
          · exact absurd (stI_a k.1.2.1 k.1.2.2.1 _ _ _ z).2 q
          · exact absurd (stJ1_a k.1.2.1 k.1.2.2.1 _ _ z).2 q

set_option maxHeartbeats 1000000 in
theorem s_X6_standings {κ : MI} {n w N : Nat} (hR : okR R) (tw : tW R na nb nk) (hp : isP R p) (hph : R p 0 = some h) (hh : isH R h) (k : PKR I p h n κ) (m12 : rI (I 19 12)) (st : SETS κ I L p h n) (hw : w < us κ) (hN : 1 ≤ N ∧ N ≤ 30) : Sp G mtX6_standings [mr 19, mr p, mi ↑w, mi ↑N] shX I L R (ql (fun z I' L' R' => rL z ∧ (∀ b, b < 64 → (tbl z b = true ↔ (∃ s, stI κ w N (lst κ) s b) ∨ (b = N ∧ ∃ s, stJ1 κ w N (lst κ) s))) ∧ WP I L R I' L' R')) := by
  refine Sp.of pnX6_standings rfl ?_
  show Rn G mtX6_standings _ 0 [(0, mr 19), (1, mr p), (2, mi ↑w), (3, mi ↑N)] [] shX I L R
  generalize hQ : (ql (fun z I' L' R' => rL z ∧ (∀ b, b < 64 → (tbl z b = true ↔ (∃ s, stI κ w N (lst κ) s b) ∨ (b = N ∧ ∃ s, stJ1 κ w N (lst κ) s))) ∧ WP I L R I' L' R')) = Q
  have hp1 := hp.1
  have hh1 := hh.1
  have hlt := PK_last k.1
  have u := PK_us k.1
  have hn2 := (PQ_n k.1.1).2
  obtain ⟨I1, hI1⟩ : ∃ I1, I1 = m_up I 19 12 (w : Int) := ⟨_, rfl⟩
  obtain ⟨L1, hL1⟩ : ∃ L1, L1 = m_up L 19 16 (z_shll 1 (N : Int)) := ⟨_, rfl⟩
  have ie : ∀ c i, c ≠ 19 → I1 c i = I c i := fun c i q => by rw [hI1, m_up_ne q]
  have le : ∀ c i, c ≠ 19 → L1 c i = L c i := fun c i q => by rw [hL1, m_up_ne q]
  have k1 : PKR I1 p h n κ := PKR_d (fun c i q => ie c i (by omega)) (by omega) (by omega) k
  have st1 : SETS κ I1 L1 p h n := SETS_d (fun c i q => ie c i (by omega)) (by omega) (by omega) (fun i => le 24 i (by omega)) st
  have i12 : I1 19 12 = (w : Int) := by rw [hI1, m_up_eq]
  have l16 : L1 19 16 = z_shll 1 (N : Int) := by rw [hL1, m_up_eq]
  have bg := s_beginA (G := G) (md := 1) hR tw hp1 hph hh k1 (by omega) st1
  have lp : ∀ t : Nat, t ≤ lst κ → ∀ na nb J K S, asI I L R p h n nk κ w N na nb J K S → STB κ J p h n w N t (fun x => K na (x : Int)) → Rn G mtX6_standings Q 22 [(0, mr 19), (1, mr p), (2, mi (w : Int)), (3, mi (N : Int)), (4, mi (t : Int))] [] shX J K S := by
    refine lpn (lst κ) (fun t ht ih => ?_) ?_
    · intro na nb J K S g s
      have hW := g.1
      have hph2 := g.2.1
      have hh2 := g.2.2.1
      have hp2 := hW.2.1
      have f := g.2.2.2.2.1
      have jh3 : J h 3 = I h 3 := f h 3 (by omega)
      have k2 := g.2.2.2.2.2.2.2.2.1
      have hn3 : J p 3 = (n : Int) := k2.1.1.2.2.2.2.1
      have hna := hW.2.2.2.2.2.2.1
      have hsw := s_sweepS (G := G) g hw hN s (by omega)
      refine x_iload dX6_standings_22 4 rfl ?_
      refine x_aload_n dX6_standings_24 0 rfl rfl ?_
      refine x_getR dX6_standings_25 flX6_54 rfl rfl hW.2.2.1 ?_
      refine x_getR dX6_standings_28 flX6_58 (shP0 hp2) rfl hph2 ?_
      refine x_getI dX6_standings_31 flX6_62 (shH0 hh2) rfl ?_
      rw [jh3]
      refine x_ic_ge (tgt := 49) dX6_standings_34 (by decide) (by omega) (fun h34 => ?_) (fun h34 => ?_)
      · exfalso; omega
      · refine x_aload_n dX6_standings_37 0 rfl rfl ?_
        refine x_iload dX6_standings_38 4 rfl ?_
        refine x_callVv (as := [_]) dX6_standings_40 lvX6_68 rfl rfl rfl rfl rfl rfl rfl ⟨rfl, rfl⟩ (hsw) (fun I40 L40 R40 hq40 => ?_)
        obtain ⟨g40, s40⟩ := hq40
        refine x_iinc (lv' := [(0, _), (1, _), (2, _), (3, _), (4, _)]) dX6_standings_43 4 rfl rfl rfl ?_
        refine x_goto (tgt := 22) dX6_standings_46 (by decide) ?_
        exact ih _ _ _ _ _ g40 s40
    · intro na nb J K S g s
      have hW := g.1
      have hph2 := g.2.1
      have hh2 := g.2.2.1
      have hp2 := hW.2.1
      have f := g.2.2.2.2.1
      have jh3 : J h 3 = I h 3 := f h 3 (by omega)
      have k2 := g.2.2.2.2.2.2.2.2.1
      have hn3 : J p 3 = (n : Int) := k2.1.1.2.2.2.2.1
      have hna := hW.2.2.2.2.2.2.1
      have l0 : ∀ x : Nat, x ≤ n → Rn G mtX6_standings Q 55 [(0, mr 19), (1, mr p), (2, mi (w : Int)), (3, mi (N : Int)), (4, ml (obF K na x)), (6, mi (x : Int))] [] shX J K S := by
        refine lpn n (fun x hx ih0 => ?_) ?_
        · refine x_iload dX6_standings_55 5 rfl ?_
          refine x_aload_n dX6_standings_57 0 rfl rfl ?_
          refine x_getR dX6_standings_58 flX6_54 rfl rfl hW.2.2.1 ?_
          refine x_getI dX6_standings_61 flX6_85 (shP0 hp2) rfl ?_
          rw [hn3]
          refine x_ic_ge (tgt := 85) dX6_standings_64 (by decide) (by omega) (fun h64 => ?_) (fun h64 => ?_)
          · exfalso; omega
          · refine x_lload dX6_standings_67 4 rfl ?_
            refine x_aload_n dX6_standings_69 0 rfl rfl ?_
            refine x_getR dX6_standings_70 flX6_35 rfl rfl hW.2.2.2.1 ?_
            refine x_iload dX6_standings_73 5 rfl ?_
            refine x_lald dX6_standings_75 (shW hW.2.2.2.2.2.2.1) (by omega) ?_
            refine x_lor dX6_standings_76 ?_
            refine x_lstore (lv' := [(0, _), (1, _), (2, _), (3, _), (4, _), (6, _)]) dX6_standings_77 rfl rfl ?_
            refine x_iinc (lv' := [(0, _), (1, _), (2, _), (3, _), (4, _), (6, _)]) dX6_standings_79 5 rfl rfl rfl ?_
            refine x_goto (tgt := 55) dX6_standings_82 (by decide) ?_
            exact ih0
        · refine x_iload dX6_standings_55 5 rfl ?_
          refine x_aload_n dX6_standings_57 0 rfl rfl ?_
          refine x_getR dX6_standings_58 flX6_54 rfl rfl hW.2.2.1 ?_
          refine x_getI dX6_standings_61 flX6_85 (shP0 hp2) rfl ?_
          rw [hn3]
          refine x_ic_ge (tgt := 85) dX6_standings_64 (by decide) (by omega) (fun h64 => ?_) (fun h64 => ?_)
          · refine x_lload dX6_standings_85 4 rfl ?_
            refine x_lret dX6_standings_87 rfl ?_
            rw [← hQ]
            refine ⟨_, rfl, ?_, fun b hb => ?_, g.wp (by omega)⟩
            · cases n with
              | zero => unfold obF; omega
              | succ n => exact z_lorl_r _ _
            · rw [tb_obF]
              constructor
              · rintro ⟨x, hx, z⟩
                rcases ((s x hx).2 b hb).mp z with y | ⟨y1, y2⟩
                · exact Or.inl ⟨_, y⟩
                · exact Or.inr ⟨y1, _, y2⟩
              · rintro (⟨s0, z⟩ | ⟨z1, s0, z2⟩)
                · obtain ⟨a1, a2⟩ := stI_a k2.1.2.1 k2.1.2.2.1 _ _ _ z
                  obtain ⟨j, hj, rfl⟩ := alv_cl k2 (by omega) a1 a2
                  exact ⟨j, hj, ((s j hj).2 b hb).mpr (Or.inl z)⟩
                · obtain ⟨a1, a2⟩ := stJ1_a k2.1.2.1 k2.1.2.2.1 _ _ z2
                  obtain ⟨j, hj, rfl⟩ := alv_cl k2 (by omega) a1 a2
                  exact ⟨j, hj, ((s j hj).2 b hb).mpr (Or.inr ⟨z1, z2⟩)⟩
          · exfalso; omega
      refine x_iload dX6_standings_22 4 rfl ?_
      refine x_aload_n dX6_standings_24 0 rfl rfl ?_
      refine x_getR dX6_standings_25 flX6_54 rfl rfl hW.2.2.1 ?_
      refine x_getR dX6_standings_28 flX6_58 (shP0 hp2) rfl hph2 ?_
      refine x_getI dX6_standings_31 flX6_62 (shH0 hh2) rfl ?_
      rw [jh3]
      refine x_ic_ge (tgt := 49) dX6_standings_34 (by decide) (by omega) (fun h34 => ?_) (fun h34 => ?_)
      · refine x_lconst 0 dX6_standings_49 rfl ?_
        refine x_lstore (lv' := [(0, _), (1, _), (2, _), (3, _), (4, _)]) dX6_standings_50 rfl rfl ?_
        refine x_iconst dX6_standings_52 ?_
        refine x_istore (lv' := [(0, _), (1, _), (2, _), (3, _), (4, _), (6, _)]) dX6_standings_53 rfl rfl ?_
        exact l0 0 (by omega)
      · exfalso; omega
  have main : ∀ J K S, ((isW S p na nb nk ∧ S p 0 = some h ∧ isH S h ∧ RFw R S ∧ FIw I1 J ∧ (J 19 10 = 1 ∧ J 19 15 = 1 ∧ ∀ i, i ≠ 10 → i ≠ 15 → J 19 i = I1 19 i) ∧ (∀ c i, ¬ (c = 29 ∨ c = 30 ∨ c = 31) → K c i = L1 c i) ∧ PKR J p h n κ ∧ SETS κ J K p h n) ∧ (∀ c i, 32 ≤ c → J c i = I1 c i) ∧ ∀ x : Nat, x < n → K na (x : Int) = if alv κ 0 (sgX I1 p h x) = true then 1 else 0) → Rn G mtX6_standings Q 19 [(0, mr 19), (1, mr p), (2, mi (w : Int)), (3, mi (N : Int))] [] shX J K S := by
    rintro J K S ⟨⟨x1, x2, x3, x4, x5, ⟨y1, y2, y3⟩, x7, x8, x9⟩, e32, ev⟩
    have g : asI I L R p h n nk κ w N na nb J K S := ⟨x1, x2, x3, x4, fun c i q => (x5 c i q).trans (ie c i (by omega)), ⟨y1, y2, (y3 12 (by decide) (by decide)).trans i12⟩, (x7 19 16 (by omega)).trans l16, fun c i q => (x7 c i (by omega)).trans (le c i (by omega)), x8, x9⟩
    have s : STB κ J p h n w N 0 (fun x => K na (x : Int)) := fun x hx => by
      simp only
      rw [ev x hx, ← sgX_d e32 (by omega) (by omega)]
      have hlt := (sgX_lt x8.1 hx).1
      by_cases q : alv κ 0 (sgX J p h x) = true
      · rw [if_pos q]
        refine ⟨by omega, fun b hb => ?_⟩
        rw [tbl_1, decide_eq_true_eq]
        exact ⟨fun z => Or.inl ⟨hlt, q, z⟩, fun z => z.elim (fun y => y.2.2) (fun y => y.2.elim)⟩
      · rw [if_neg q]
        refine ⟨by omega, fun b hb => ?_⟩
        rw [tbl_0]
        exact ⟨fun z => Bool.noConfusion z, fun z => z.elim (fun y => absurd y.2.1 q) (fun y => y.2.elim)⟩
    have z := lp 0 (by omega) _ _ _ _ _ g s
    refine x_iconst dX6_standings_19 ?_
    refine x_istore (lv' := [(0, _), (1, _), (2, _), (3, _), (4, _)]) dX6_standings_20 rfl rfl ?_
    exact z
  have main12 : Rn G mtX6_standings Q 12 [(0, mr 19), (1, mr p), (2, mi (w : Int)), (3, mi (N : Int))] [] shX I1 L1 R := by
    refine x_aload_n dX6_standings_12 0 rfl rfl ?_
    refine x_aload_n dX6_standings_13 1 rfl rfl ?_
    refine x_iconst dX6_standings_14 ?_
    refine x_iconst dX6_standings_15 ?_
    refine x_callVv (as := [_, _, _]) dX6_standings_16 lvX6_50 rfl rfl rfl rfl rfl rfl rfl ⟨rfl, rfl⟩ (bg) (fun I16 L16 R16 hq16 => ?_)
    skip
    exact main _ _ _ hq16
  refine x_aload_n dX6_standings_0 0 rfl rfl ?_
  refine x_iload_n dX6_standings_1 2 rfl rfl ?_
  refine x_putI dX6_standings_2 flX6_101 rfl rfl rfl ?_
  refine x_aload_n dX6_standings_5 0 rfl rfl ?_
  refine x_lconst 1 dX6_standings_6 rfl ?_
  refine x_iload_n dX6_standings_7 3 rfl rfl ?_
  refine x_lshl dX6_standings_8 ?_
  refine x_putL dX6_standings_9 flX6_104 rfl rfl rfl ?_
  rw [← hI1, ← hL1]
  exact main12
end

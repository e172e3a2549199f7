/-! THE CLASS: the Walks: who stays apart; where a told walk goes wrong. -/
theorem sp_room {I κ : MI} {p h n x : Nat} (k : PK I p h n κ) (hx : x < n) {w : Nat} (hw : w < us κ) {b : Nat} (hb : b < 6) : tb (I (p + 7) (x : Int)) (6 * w + b) = decide (b = rm (sgX I p h x) w) := by
  have u := PK_us k
  have h6 := k.1.2.1.1
  have hr : ∀ v, v < us κ → rm (sgX I p h x) v < 6 := fun v hv => by have := rm_sg k hx hv; omega
  by_cases q : b = rm (sgX I p h x) w
  · rw [decide_eq_true q]
    exact (tb_sp k hx (by omega)).mpr ⟨w, hw, Or.inl (by omega)⟩
  · rw [decide_eq_false q]
    cases z : tb (I (p + 7) (x : Int)) (6 * w + b)
    · rfl
    · obtain ⟨v, hv, e⟩ := (tb_sp k hx (by omega)).mp z
      have := hr v hv
      rcases e with e | e
      · have : v = w := by omega
        subst this
        omega
      · omega
theorem tb_63 {k : Nat} (hk : k < 32) : tb 63 k = decide (k < 6) := by
  have : ∀ k, k < 32 → tb 63 k = decide (k < 6) := by decide
  exact this k hk
theorem sp_shl {I κ : MI} {p h n x : Nat} (k : PK I p h n κ) (hx : x < n) {w : Nat} (hw : w < us κ) : z_and (z_shr (I (p + 7) (x : Int)) (6 * (w : Int))) 63 = z_shl 1 ((rm (sgX I p h x) w : Nat) : Int) := by
  have u := PK_us k
  have h6 := k.1.2.1.1
  have hr : rm (sgX I p h x) w < 6 := by have := rm_sg k hx hw; omega
  refine tb_ext (z_and_r _ _) (z_shl_r _ _) (fun b hb => ?_)
  rw [tb_and, tb_63 hb, tb_sh1 (by omega) hb, Int.toNat_natCast]
  by_cases q : b < 6
  · rw [tb_shr (by omega) (by omega), decide_eq_true q, Bool.and_true, show b + (6 * (w : Int)).toNat = 6 * w + b by omega, sp_room k hx hw q]
  · rw [decide_eq_false q, Bool.and_false, decide_eq_false (by omega)]
theorem z_sh_inj {a b : Nat} (ha : a < 31) (hb : b < 31) : z_shl 1 (a : Int) = z_shl 1 (b : Int) ↔ a = b := by
  constructor
  · intro h
    have h1 : tb (z_shl 1 (a : Int)) a = tb (z_shl 1 (b : Int)) a := by rw [h]
    rw [tb_sh1 (by omega) (by omega), tb_sh1 (by omega) (by omega), Int.toNat_natCast, Int.toNat_natCast, decide_eq_true rfl] at h1
    exact (decide_eq_true_eq.mp h1.symm)
  · intro h; rw [h]
theorem anv_iff {V : Nat → Int} : ∀ n, anv V n = true ↔ ∃ s, s < n ∧ 0 ≤ V s
  | 0 => ⟨fun q => Bool.noConfusion q, fun ⟨s, h, _⟩ => by omega⟩
  | n + 1 => by
    unfold anv
    rw [Bool.or_eq_true, anv_iff n, decide_eq_true_eq]
    constructor
    · rintro (⟨s, h1, h2⟩ | h)
      · exact ⟨s, by omega, h2⟩
      · exact ⟨n, by omega, h⟩
    · rintro ⟨s, h1, h2⟩
      by_cases e : s = n
      · subst e; exact Or.inr h2
      · exact Or.inl ⟨s, by omega, h2⟩
/-- none counts in the class: none in the reference -/
theorem rel_none {κ J : MI} {p h n t : Nat} {K : Nat → Int} {W : Nat → Int} (k : PKR J p h n κ) (ht : (t : Int) ≤ J h 3) (r : RELn κ J p h n t K W) : (∀ x, x < n → K x = 0) ↔ ¬ anv W (nst κ) = true := by
  rw [anv_iff]
  constructor
  · rintro q ⟨s, hs, hw⟩
    obtain ⟨j, hj, rfl⟩ := alv_cl k ht hs (r.2 s hs hw)
    exact (r.1 j hj).2.mpr hw (q j hj)
  · intro q x hx
    apply Classical.byContradiction
    intro z
    exact q ⟨_, (sgX_lt k.1 hx).1, (r.1 x hx).2.mp z⟩
/-- what a call of the Walks leaves -/
def WP (I L : MI) (R : MR) (I' L' : MI) (R' : MR) : Prop := FIw I I' ∧ (rI (I' 19 12) ∧ rI (I' 19 15)) ∧ (∀ c i, ¬ (c = 19 ∨ c = 29 ∨ c = 30 ∨ c = 31) → L' c i = L c i) ∧ RFw R R' ∧ ∃ na nb nk, tW R' na nb nk
theorem alI.wp {I L : MI} {R : MR} {p h n nk : Nat} {κ : MI} {na nb : Nat} {J K : MI} {S : MR} (g : alI I L R p h n nk κ na nb J K S) : WP I L R J K S := by
  obtain ⟨x1, x2, x3, x4, x5, ⟨y1, y2, y3⟩, x7, x8, x9⟩ := g
  exact ⟨x5, ⟨y3, by omega⟩, fun c i q => x7 c i (fun z => q (by omega)), x4, na, nb, nk, x1.t⟩
theorem alI.mp {I L : MI} {R : MR} {p h n nk : Nat} {κ : MI} {na nb : Nat} {J K : MI} {S : MR} (g : alI I L R p h n nk κ na nb J K S) (m : Nat) (f : Nat → Int → Int) : alI I L R p h n nk κ na nb J (mapL K na m f) S := by
  obtain ⟨x1, x2, x3, x4, x5, x6, x7, x8, x9⟩ := g
  have hna := x1.2.2.2.2.2.2.1
  exact ⟨x1, x2, x3, x4, x5, x6, fun c i q => (mapL_ne (by omega) i).trans (x7 c i q), x8, SETS_d (fun _ _ _ => rfl) (by have := x1.2.1.1; omega) (by have := x3.1; omega) (fun i => mapL_ne (by omega) i) x9⟩
section
variable {G : GT} {I L : MI} {R : MR} {p h na nb nk : Nat}

set_option maxHeartbeats 1000000 in
theorem s_X6_stayApart {κ : MI} {n w o : Nat} (hR : okR R) (tw : tW R na nb nk) (hp : isP R p) (hph : R p 0 = some h) (hh : isH R h) (k : PKR I p h n κ) (m12 : rI (I 19 12)) (st : SETS κ I L p h n) (hw : w < us κ) (ho : o < us κ) : Sp G mtX6_stayApart [mr 19, mr p, mi ↑w, mi ↑o] shX I L R (qi (fun z I' L' R' => z = b01 (anv (cmV κ w o (lst κ)) (nst κ) = true) ∧ WP I L R I' L' R')) := by
  refine Sp.of pnX6_stayApart rfl ?_
  show Rn G mtX6_stayApart _ 0 [(0, mr 19), (1, mr p), (2, mi ↑w), (3, mi ↑o)] [] shX I L R
  generalize hQ : (qi (fun z I' L' R' => z = b01 (anv (cmV κ w o (lst κ)) (nst κ) = true) ∧ WP I L R I' L' R')) = Q
  have hp1 := hp.1
  have hh1 := hh.1
  have hlt := PK_last k.1
  have u := PK_us k.1
  have hn2 := (PQ_n k.1.1).2
  have lp : ∀ t : Nat, t ≤ lst κ + 1 → ∀ na nb J K S, alI I L R p h n nk κ na nb J K S → (t = 0 → RELn κ J p h n 0 (fun x => K na (x : Int)) (bgV κ 0)) → (0 < t → RELn κ J p h n (t - 1) (fun x => K na (x : Int)) (cmV κ w o (t - 1))) → Rn G mtX6_stayApart Q 10 [(0, mr 19), (1, mr p), (2, mi (w : Int)), (3, mi (o : Int)), (4, mi (t : Int))] [] shX J K S := by
    refine lpn (lst κ + 1) (fun t ht ih => ?_) ?_
    · intro na nb J K S g r0 r1
      have hW := g.1
      have hph2 := g.2.1
      have hh2 := g.2.2.1
      have hp2 := hW.2.1
      have f := g.2.2.2.2.1
      have jh3 : J h 3 = I h 3 := f h 3 (by omega)
      have k2 := g.2.2.2.2.2.2.2.1
      have hn3 : J p 3 = (n : Int) := k2.1.1.2.2.2.2.1
      have hna := hW.2.2.2.2.2.2.1
      have at38 : ∀ na nb J K S W, alI I L R p h n nk κ na nb J K S → RELn κ J p h n t (fun x => K na (x : Int)) W → cmf w o W = cmV κ w o t → Rn G mtX6_stayApart Q 38 [(0, mr 19), (1, mr p), (2, mi (w : Int)), (3, mi (o : Int)), (4, mi (t : Int))] [] shX J K S := by
        intro na nb J K S W g r ew
        have hW := g.1
        have hph2 := g.2.1
        have hh2 := g.2.2.1
        have hp2 := hW.2.1
        have f := g.2.2.2.2.1
        have jh3 : J h 3 = I h 3 := f h 3 (by omega)
        have k2 := g.2.2.2.2.2.2.2.1
        have hn3 : J p 3 = (n : Int) := k2.1.1.2.2.2.2.1
        have hna := hW.2.2.2.2.2.2.1
        obtain ⟨F, hF⟩ : ∃ F : Nat → Int → Int, F = fun x v => if rm (sgX J p h x) w = rm (sgX J p h x) o then 0 else v := ⟨_, rfl⟩
        have l0 : ∀ x : Nat, x ≤ n → Rn G mtX6_stayApart Q 41 [(0, mr 19), (1, mr p), (2, mi (w : Int)), (3, mi (o : Int)), (4, mi (t : Int)), (5, mi (x : Int))] [] shX J (mapL K na x F) S := by
          refine lpn n (fun x hx ih0 => ?_) ?_
          · have tg : Sp G mtX6_together [mr 19, mi (x : Int), mi (w : Int), mi (o : Int)] shX J (mapL K na x F) S (qi (pu (b01 (rm (sgX J p h x) w = rm (sgX J p h x) o)) J (mapL K na x F) S)) := by
              have z := s_X6_together (G := G) (I := J) (L := mapL K na x F) (R := S) (j := (x : Int)) (w := (w : Int)) (o := (o : Int)) hW (by omega)
              rw [sp_shl k2.1 hx hw, sp_shl k2.1 hx ho] at z
              have hrw := rm_sg k2.1 hx hw
              have hro := rm_sg k2.1 hx ho
              have h6 := k2.1.1.2.1.1
              have e : b01 (z_shl 1 ((rm (sgX J p h x) w : Nat) : Int) = z_shl 1 ((rm (sgX J p h x) o : Nat) : Int)) = b01 (rm (sgX J p h x) w = rm (sgX J p h x) o) := by
                by_cases q : rm (sgX J p h x) w = rm (sgX J p h x) o
                · rw [← b01_t ((z_sh_inj (by omega) (by omega)).mpr q), ← b01_t q]
                · rw [← b01_f (fun y => q ((z_sh_inj (by omega) (by omega)).mp y)), ← b01_f q]
              rw [e] at z
              exact z
            refine x_iload dX6_stayApart_41 5 rfl ?_
            refine x_aload_n dX6_stayApart_43 0 rfl rfl ?_
            refine x_getR dX6_stayApart_44 flX6_54 rfl rfl hW.2.2.1 ?_
            refine x_getI dX6_stayApart_47 flX6_85 (shP0 hp2) rfl ?_
            rw [hn3]
            refine x_ic_ge (tgt := 78) dX6_stayApart_50 (by decide) (by omega) (fun h50 => ?_) (fun h50 => ?_)
            · exfalso; omega
            · refine x_aload_n dX6_stayApart_53 0 rfl rfl ?_
              refine x_iload dX6_stayApart_54 5 rfl ?_
              refine x_iload_n dX6_stayApart_56 2 rfl rfl ?_
              refine x_iload_n dX6_stayApart_57 3 rfl rfl ?_
              refine x_callVi (as := [_, _, _]) dX6_stayApart_58 lvX6_108 rfl rfl rfl rfl rfl rfl rfl ⟨rfl, rfl⟩ (tg) (fun z58 I58 L58 R58 hq58 => ?_)
              obtain ⟨rfl, rfl, rfl, rfl⟩ := hq58
              refine y_ifb_eq (tgt := 72) dX6_stayApart_61 (by decide) (fun h61 => ?_) (fun h61 => ?_)
              · refine x_iinc (lv' := [(0, _), (1, _), (2, _), (3, _), (4, _), (5, _)]) dX6_stayApart_72 5 rfl rfl rfl ?_
                refine x_goto (tgt := 41) dX6_stayApart_75 (by decide) ?_
                first
                | (have hb := h61
                   first
                   | (have hy : rm (sgX J p h x) w = rm (sgX J p h x) o := hb
                      have hu := mapL_up K na x F
                      rw [show F x (K na (x : Int)) = 0 by rw [hF]; exact if_pos hy] at hu
                      rw [hu]
                      exact ih0)
                   | (have hy : ¬ rm (sgX J p h x) w = rm (sgX J p h x) o := hb
                      rw [mapL_same K na x F (by rw [hF]; exact if_neg hy)]
                      exact ih0))
              · refine x_aload_n dX6_stayApart_64 0 rfl rfl ?_
                refine x_getR dX6_stayApart_65 flX6_35 rfl rfl hW.2.2.2.1 ?_
                refine x_iload dX6_stayApart_68 5 rfl ?_
                refine x_lconst 0 dX6_stayApart_70 rfl ?_
                refine x_last dX6_stayApart_71 (shW hW.2.2.2.2.2.2.1) (by omega) ?_
                refine x_iinc (lv' := [(0, _), (1, _), (2, _), (3, _), (4, _), (5, _)]) dX6_stayApart_72 5 rfl rfl rfl ?_
                refine x_goto (tgt := 41) dX6_stayApart_75 (by decide) ?_
                first
                | (have hb := h61
                   first
                   | (have hy : rm (sgX J p h x) w = rm (sgX J p h x) o := hb
                      have hu := mapL_up K na x F
                      rw [show F x (K na (x : Int)) = 0 by rw [hF]; exact if_pos hy] at hu
                      rw [hu]
                      exact ih0)
                   | (have hy : ¬ rm (sgX J p h x) w = rm (sgX J p h x) o := hb
                      rw [mapL_same K na x F (by rw [hF]; exact if_neg hy)]
                      exact ih0))
          · have g2 := g.mp n F
            have r2 : RELn κ J p h n t (fun x => mapL K na n F na (x : Int)) (cmV κ w o t) := by
              rw [← ew]
              refine ⟨fun x hx => ?_, fun s hs q => ?_⟩
              · simp only
                have eF : ∀ v, F x v = if rm (sgX J p h x) w = rm (sgX J p h x) o then 0 else v := fun v => by rw [hF]
                rw [mapL_in hx, eF]
                unfold cmf
                by_cases q : rm (sgX J p h x) w = rm (sgX J p h x) o
                · rw [if_pos q, if_pos q]
                  exact ⟨by omega, fun z => absurd rfl z, fun z => by omega⟩
                · rw [if_neg q, if_neg q]
                  exact r.1 x hx
              · unfold cmf at q
                split at q
                · omega
                · exact r.2 s hs q
            refine x_iload dX6_stayApart_41 5 rfl ?_
            refine x_aload_n dX6_stayApart_43 0 rfl rfl ?_
            refine x_getR dX6_stayApart_44 flX6_54 rfl rfl hW.2.2.1 ?_
            refine x_getI dX6_stayApart_47 flX6_85 (shP0 hp2) rfl ?_
            rw [hn3]
            refine x_ic_ge (tgt := 78) dX6_stayApart_50 (by decide) (by omega) (fun h50 => ?_) (fun h50 => ?_)
            · refine x_iinc (lv' := [(0, _), (1, _), (2, _), (3, _), (4, _), (5, _)]) dX6_stayApart_78 4 rfl rfl rfl ?_
              refine x_goto (tgt := 10) dX6_stayApart_81 (by decide) ?_
              refine x_top (lv' := [(0, _), (1, _), (2, _), (3, _), (4, _)]) 5 rfl ?_
              exact ih _ _ _ _ _ g2 (fun q => by omega) (fun _ => r2)
            · exfalso; omega
        have z := l0 0 (by omega)
        rw [mapL_0] at z
        refine x_iconst dX6_stayApart_38 ?_
        refine x_istore (lv' := [(0, _), (1, _), (2, _), (3, _), (4, _), (5, _)]) dX6_stayApart_39 rfl rfl ?_
        exact z
      have hsw : 0 < t → Sp G mtX6_sweep [mr 19, mi ((t : Int) - 1)] shX J K S (qv (fun I' L' R' => alI I L R p h n nk κ nb na I' L' R' ∧ RELn κ I' p h n t (fun x => L' nb (x : Int)) (gW κ (t - 1) (cmV κ w o (t - 1))))) := fun q => by
        have z := s_sweepN (G := G) g (r1 q) (by omega)
        rw [show ((t - 1 : Nat) : Int) = (t : Int) - 1 by omega, show t - 1 + 1 = t by omega] at z
        exact z
      refine x_iload dX6_stayApart_10 4 rfl ?_
      refine x_aload_n dX6_stayApart_12 0 rfl rfl ?_
      refine x_getR dX6_stayApart_13 flX6_54 rfl rfl hW.2.2.1 ?_
      refine x_getR dX6_stayApart_16 flX6_58 (shP0 hp2) rfl hph2 ?_
      refine x_getI dX6_stayApart_19 flX6_62 (shH0 hh2) rfl ?_
      rw [jh3]
      refine x_ic_gt (tgt := 84) dX6_stayApart_22 (by decide) (by omega) (fun h22 => ?_) (fun h22 => ?_)
      · exfalso; omega
      · refine x_iload dX6_stayApart_25 4 rfl ?_
        refine x_if_le (tgt := 38) dX6_stayApart_27 (by decide) (by omega) (fun h27 => ?_) (fun h27 => ?_)
        · first
          | (have z := g35
             refine at38 _ _ _ _ _ _ g35 r35 ?_
             obtain ⟨v, rfl⟩ : ∃ v, t = v + 1 := ⟨t - 1, by omega⟩
             rfl)
          | (have e0 : t = 0 := by omega
             subst e0
             exact at38 _ _ _ _ _ _ g (r0 rfl) rfl)
        · refine x_aload_n dX6_stayApart_30 0 rfl rfl ?_
          refine x_iload dX6_stayApart_31 4 rfl ?_
          refine x_iconst dX6_stayApart_33 ?_
          refine x_isub dX6_stayApart_34 ?_
          refine x_callVv (as := [_]) dX6_stayApart_35 lvX6_68 rfl rfl rfl rfl rfl rfl rfl ⟨rfl, rfl⟩ (hsw (by omega)) (fun I35 L35 R35 hq35 => ?_)
          obtain ⟨g35, r35⟩ := hq35
          first
          | (have z := g35
             refine at38 _ _ _ _ _ _ g35 r35 ?_
             obtain ⟨v, rfl⟩ : ∃ v, t = v + 1 := ⟨t - 1, by omega⟩
             rfl)
          | (have e0 : t = 0 := by omega
             subst e0
             exact at38 _ _ _ _ _ _ g (r0 rfl) rfl)
    · intro na nb J K S g r0 r1
      have hW := g.1
      have hph2 := g.2.1
      have hh2 := g.2.2.1
      have hp2 := hW.2.1
      have f := g.2.2.2.2.1
      have jh3 : J h 3 = I h 3 := f h 3 (by omega)
      have k2 := g.2.2.2.2.2.2.2.1
      have hn3 : J p 3 = (n : Int) := k2.1.1.2.2.2.2.1
      have hna := hW.2.2.2.2.2.2.1
      have r := r1 (by omega)
      rw [show lst κ + 1 - 1 = lst κ by omega] at r
      have hno := noX_iff (L := K) (a := na) n
      have hre := rel_none k2 (t := lst κ) (by omega) r
      have hvr : ∀ j : Nat, j < n → rL (K na (j : Int)) := fun j hj => by
        have := (r.1 j hj).1
        simp only at this
        omega
      refine x_iload dX6_stayApart_10 4 rfl ?_
      refine x_aload_n dX6_stayApart_12 0 rfl rfl ?_
      refine x_getR dX6_stayApart_13 flX6_54 rfl rfl hW.2.2.1 ?_
      refine x_getR dX6_stayApart_16 flX6_58 (shP0 hp2) rfl hph2 ?_
      refine x_getI dX6_stayApart_19 flX6_62 (shH0 hh2) rfl ?_
      rw [jh3]
      refine x_ic_gt (tgt := 84) dX6_stayApart_22 (by decide) (by omega) (fun h22 => ?_) (fun h22 => ?_)
      · refine x_aload_n dX6_stayApart_84 0 rfl rfl ?_
        refine x_callVi (as := []) dX6_stayApart_85 lvX6_75 rfl rfl rfl rfl rfl rfl rfl ⟨rfl, rfl⟩ (s_X6_isNone hW hn3 hn2 hvr) (fun z85 I85 L85 R85 hq85 => ?_)
        obtain ⟨rfl, rfl, rfl, rfl⟩ := hq85
        refine y_ifb_ne (tgt := 95) dX6_stayApart_88 (by decide) (fun h88 => ?_) (fun h88 => ?_)
        · refine x_iconst dX6_stayApart_95 ?_
          refine x_zret dX6_stayApart_96 rfl (by decide) ?_
          rw [← hQ]
          refine ⟨_, rfl, ?_, g.wp⟩
          first
          | (have hb : ¬ noX K na n = true := h88
             refine b01_t ?_
             apply Classical.byContradiction
             intro q
             exact hb (hno.mpr (hre.mpr q)))
          | (have hb : noX K na n = true := h88
             exact b01_f (hre.mp (hno.mp hb)))
        · refine x_iconst dX6_stayApart_91 ?_
          refine x_goto (tgt := 96) dX6_stayApart_92 (by decide) ?_
          refine x_zret dX6_stayApart_96 rfl (by decide) ?_
          rw [← hQ]
          refine ⟨_, rfl, ?_, g.wp⟩
          first
          | (have hb : ¬ noX K na n = true := h88
             refine b01_t ?_
             apply Classical.byContradiction
             intro q
             exact hb (hno.mpr (hre.mpr q)))
          | (have hb : noX K na n = true := h88
             exact b01_f (hre.mp (hno.mp hb)))
      · exfalso; omega
  refine x_aload_n dX6_stayApart_0 0 rfl rfl ?_
  refine x_aload_n dX6_stayApart_1 1 rfl rfl ?_
  refine x_iconst dX6_stayApart_2 ?_
  refine x_iconst dX6_stayApart_3 ?_
  refine x_callVv (as := [_, _, _]) dX6_stayApart_4 lvX6_50 rfl rfl rfl rfl rfl rfl rfl ⟨rfl, rfl⟩ (s_beginN hR tw hp1 hph hh k m12 st) (fun I4 L4 R4 hq4 => ?_)
  obtain ⟨g4, r4⟩ := hq4
  refine x_iconst dX6_stayApart_7 ?_
  refine x_istore (lv' := [(0, _), (1, _), (2, _), (3, _), (4, _)]) dX6_stayApart_8 rfl rfl ?_
  exact lp 0 (by omega) _ _ _ _ _ g4 (fun _ => r4) (fun q => by omega)
end

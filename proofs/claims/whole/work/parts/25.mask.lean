/-! THE REFERENCE'S QUESTIONS, part seven: who passes, who is there. -/
def foC {α : Type} (p : Nat → Bool) (f : Nat → α → α) : Nat → α → α
  | 0, x => x
  | c + 1, x => if p c then f c (foC p f c x) else foC p f c x
theorem foC_t {α : Type} {p : Nat → Bool} {f : Nat → α → α} {c : Nat} {x : α} (h : p c = true) : foC p f (c + 1) x = f c (foC p f c x) := if_pos h
theorem foC_f {α : Type} {p : Nat → Bool} {f : Nat → α → α} {c : Nat} {x : α} (h : ¬ p c = true) : foC p f (c + 1) x = foC p f c x := if_neg h
def paQ (κ : MI) (t s c : Nat) : Bool := vld κ t s c && alv κ (t + 1) (nxt κ t s c)
def paF {α : Type} (κ : MI) (t : Nat) (f : Nat → Nat → α → α) (n : Nat) (x : α) : α := foC (fun s => alv κ t s) (fun s x => foC (paQ κ t s) (f s) (mal κ t s) x) n x
def pst (κ : MI) (d : Int) (t s c : Nat) : Int := orf (fun w => if mvd κ t s c w = d then z_shl 1 (w : Int) else 0) (us κ)
def pMay (κ : MI) (d : Int) (t : Nat) (n : Nat) : Int := paF κ t (fun s c x => z_or x (pst κ d t s c)) n 0
def pMus (κ : MI) (d : Int) (t : Nat) (n : Nat) : Int := paF κ t (fun s c x => z_and x (pst κ d t s c)) n (z_shl 1 (κ 0 34) - 1)
def pAny (κ : MI) (d : Int) (t : Nat) (n : Nat) : Bool := paF κ t (fun s c b => b || decide (pst κ d t s c ≠ 0)) n false
def pAll (κ : MI) (d : Int) (t : Nat) (n : Nat) : Bool := paF κ t (fun s c b => b && decide (pst κ d t s c ≠ 0)) n true
def mnF (f : Nat → Bool) : Nat → Int
  | 0 => 0
  | t + 1 => mnF f t + (if f t then 1 else 0)
theorem mnF_s (f : Nat → Bool) (t : Nat) : mnF f (t + 1) = mnF f t + (if f t then 1 else 0) := rfl
theorem mnF_r (f : Nat → Bool) : ∀ n : Nat, 0 ≤ mnF f n ∧ mnF f n ≤ n
  | 0 => by unfold mnF; omega
  | n + 1 => by have := mnF_r f n; unfold mnF; split <;> omega
def pmn (κ : MI) (d : Int) : Int := mnF (fun t => pAny κ d t (nst κ)) (lst κ)
def pmx (κ : MI) (d : Int) : Int := mnF (fun t => pAll κ d t (nst κ)) (lst κ)
def thF (κ : MI) : Nat → Int × Int
  | 0 => (-9, -1)
  | d + 1 => if ¬ κ 7 (3 * (d : Int) + 2) = 1 ∧ (thF κ d).2 < pmn κ d - pmx κ d then ((d : Int), pmn κ d - pmx κ d) else thF κ d
theorem thF_r {κ : MI} : ∀ n : Nat, -9 ≤ (thF κ n).1 ∧ (thF κ n).1 < n ∧ -1 ≤ (thF κ n).2 ∧ (thF κ n).2 ≤ lst κ
  | 0 => by unfold thF; simp
  | n + 1 => by
    have h1 := thF_r (κ := κ) n
    have h2 := mnF_r (fun t => pAny κ n t (nst κ)) (lst κ)
    have h3 := mnF_r (fun t => pAll κ n t (nst κ)) (lst κ)
    unfold thF pmn pmx
    split
    · simp only; omega
    · omega
noncomputable def s_passes (d : Int) (I : MI) : Int × MI := if d < 0 ∨ I 0 12 ≤ d then (-1, I) else if okA I = false then (-3, a_mt I 4) else (pmn (kap I 0 (I 0 13)) d, a_tl I (pmx (kap I 0 (I 0 13)) d))
noncomputable def s_third (I : MI) : Int × MI := if okA I = false then (-3, a_mt I 4) else if (thF (kap I 0 (I 0 13)) (I 0 12).toNat).1 = -9 then (-9, I) else ((thF (kap I 0 (I 0 13)) (I 0 12).toNat).1, a_tl I (thF (kap I 0 (I 0 13)) (I 0 12).toNat).2)
noncomputable def s_whose (e : Int) (I : MI) : Int × MI := if e < 0 ∨ I 0 25 ≤ e then (-1, I) else if ¬ I 11 (4 * e + 0) = 1 then (-3, a_mt I 3) else if okA I = false then (-3, a_mt I 4)
  else (pMay (kap I 0 (I 0 13)) (I 11 (4 * e + 1)) (I 11 (4 * e + 3)).toNat (nst (kap I 0 (I 0 13))), a_tl I (pMus (kap I 0 (I 0 13)) (I 11 (4 * e + 1)) (I 11 (4 * e + 3)).toNat (nst (kap I 0 (I 0 13)))))
def smS (κ : MI) (a : Int) (s : Nat) : Int := orf (fun w => if (rm s w : Int) = a then z_shl 1 (w : Int) else 0) (us κ)
def smMay (κ : MI) (a : Int) (t n : Nat) : Int := foC (fun s => alv κ t s) (fun s x => z_or x (smS κ a s)) n 0
def smMus (κ : MI) (a : Int) (t n : Nat) : Int := foC (fun s => alv κ t s) (fun s x => z_and x (smS κ a s)) n (z_shl 1 (κ 0 34) - 1)
noncomputable def s_same (e : Int) (I : MI) : Int × MI := if e < 0 ∨ I 0 25 ≤ e then (-1, I) else if ¬ (I 11 (4 * e + 0) = 2 ∨ I 11 (4 * e + 0) = 3) then (-3, a_mt I 3) else if okA I = false then (-3, a_mt I 4)
  else (smMay (kap I 0 (I 0 13)) (I 11 (4 * e + 1)) (I 11 (4 * e + 3)).toNat (nst (kap I 0 (I 0 13))), a_tl I (smMus (kap I 0 (I 0 13)) (I 11 (4 * e + 1)) (I 11 (4 * e + 3)).toNat (nst (kap I 0 (I 0 13)))))
/-- what holds of events of a kind -/
def iEvL (I : MI) : Prop := ∀ e : Int, 0 ≤ e → e < I 0 25 → ((I 11 (4 * e + 0) = 1 ∨ I 11 (4 * e + 0) = 5) → I 11 (4 * e + 1) < I 0 12 ∧ I 11 (4 * e + 3) < I 0 14) ∧ (I 11 (4 * e + 0) = 1 → I 7 (3 * I 11 (4 * e + 1) + 2) = 1) ∧ (I 11 (4 * e + 0) = 5 → I 11 (4 * e + 2) < I 0 14) ∧ ((I 11 (4 * e + 0) = 2 ∨ I 11 (4 * e + 0) = 3 ∨ I 11 (4 * e + 0) = 4) → I 11 (4 * e + 1) < I 0 11 ∧ I 11 (4 * e + 3) ≤ I 0 14) ∧ (I 11 (4 * e + 0) = 3 → I 11 (4 * e + 2) < I 0 13)
section
variable {G : GT} {sh : MS} {I L : MI} {R : MR} {κ : MI}

set_option maxHeartbeats 1500000 in
theorem s_X8_layPassing {d : Int} {t : Nat} (h0 : E1 κ I) (hH : iHs κ) (hS : iSc κ) (hB : Tb κ L) (ht : t < lst κ) (hd : rI d) : Sp G mtX8_layPassing [mr 0, mi d, mi ↑t] shM I L rM (qv (fun I' L' R' => E1 κ I' ∧ L = L' ∧ R' = rM ∧ I' 0 51 = pMay κ d t (nst κ) ∧ I' 0 52 = pMus κ d t (nst κ) ∧ I' 0 53 = b01 (pAny κ d t (nst κ) = true) ∧ I' 0 54 = b01 (pAll κ d t (nst κ) = true) ∧ I' 0 55 = I 0 55 ∧ I' 0 56 = I 0 56)) := by
  refine Sp.of pnX8_layPassing rfl ?_
  show Rn G mtX8_layPassing _ 0 [(0, mr 0), (1, mi d), (2, mi ↑t)] [] shM I L rM
  generalize hQ : (qv (fun I' L' R' => E1 κ I' ∧ L = L' ∧ R' = rM ∧ I' 0 51 = pMay κ d t (nst κ) ∧ I' 0 52 = pMus κ d t (nst κ) ∧ I' 0 53 = b01 (pAny κ d t (nst κ) = true) ∧ I' 0 54 = b01 (pAll κ d t (nst κ) = true) ∧ I' 0 55 = I 0 55 ∧ I' 0 56 = I 0 56)) = Q
  have hu := us_le hH hS
  have hnn := (nst_le hH hS).2
  have hT := hH.2.2.2.1
  have hlt : (lst κ : Int) = κ 0 14 := by unfold lst; omega
  have hu := us_le hH hS
  have e34 : I 0 34 = κ 0 34 := h0.at (by unfold sce per; omega)
  have sl : ∀ s : Nat, s ≤ nst κ → ∀ J : MI, E1 κ J → J 0 51 = pMay κ d t s → J 0 52 = pMus κ d t s → J 0 53 = b01 (pAny κ d t s = true) → J 0 54 = b01 (pAll κ d t s = true) → (J 0 55 = I 0 55 ∧ J 0 56 = I 0 56) → Rn G mtX8_layPassing Q 29 [(0, mr 0), (1, mi d), (2, mi ↑t), (3, mi (s : Int))] [] shM J L rM := by
    refine lpn _ (fun s hs ih => ?_) ?_
    · intro J hJ f1 f2 f3 f4 f5
      have hs2 : s < 1728 := by omega
      have hml : mal κ t s ≤ 729 := mal_le hH hS t s
      have hT2 := hB t s (by omega) hs
      have cl : ∀ c : Nat, c ≤ mal κ t s → alv κ t s = true → ∀ J3 : MI, E1 κ J3 → J3 0 41 = (mal κ t s : Int) → hMv κ t s (us κ) J3 → J3 0 51 = foC (paQ κ t s) (fun c x => z_or x (pst κ d t s c)) c (pMay κ d t s) → J3 0 52 = foC (paQ κ t s) (fun c x => z_and x (pst κ d t s c)) c (pMus κ d t s) → J3 0 53 = b01 (foC (paQ κ t s) (fun c b => b || decide (pst κ d t s c ≠ 0)) c (pAny κ d t s) = true) → J3 0 54 = b01 (foC (paQ κ t s) (fun c b => b && decide (pst κ d t s c ≠ 0)) c (pAll κ d t s) = true) → (J3 0 55 = I 0 55 ∧ J3 0 56 = I 0 56) → Rn G mtX8_layPassing Q 55 [(0, mr 0), (1, mi d), (2, mi ↑t), (3, mi (s : Int)), (4, mi (c : Int))] [] shM J3 L rM := by
        refine lpn _ (fun c hc ihc => ?_) ?_
        · intro hal J3 hJ3 hm hM f1 f2 f3 f4 f5
          have hnx := nxt_lt hH hs2 (t := (t : Int)) c
          have hB2 := hB (t + 1) _ (by omega) hnx
          have nx : ∀ J4 : MI, E1 κ J4 → J4 0 41 = (mal κ t s : Int) → hMv κ t s (us κ) J4 → J4 0 51 = foC (paQ κ t s) (fun c x => z_or x (pst κ d t s c)) (c + 1) (pMay κ d t s) → J4 0 52 = foC (paQ κ t s) (fun c x => z_and x (pst κ d t s c)) (c + 1) (pMus κ d t s) → J4 0 53 = b01 (foC (paQ κ t s) (fun c b => b || decide (pst κ d t s c ≠ 0)) (c + 1) (pAny κ d t s) = true) → J4 0 54 = b01 (foC (paQ κ t s) (fun c b => b && decide (pst κ d t s c ≠ 0)) (c + 1) (pAll κ d t s) = true) → (J4 0 55 = I 0 55 ∧ J4 0 56 = I 0 56) → ∀ lv8, lv8 = [(0, mr 0), (1, mi d), (2, mi ↑t), (3, mi (s : Int)), (4, mi (c : Int))] → Rn G mtX8_layPassing Q 201 lv8 [] shM J4 L rM := by
            intro J4 hJ4 hm4 hM4 g1 g2 g3 g4 g5 lv8 hlv
            subst hlv
            refine x_iinc (lv' := [(0, _), (1, _), (2, _), (3, _), (4, _)]) dX8_layPassing_201 4 rfl rfl rfl ?_
            refine x_goto (tgt := 55) dX8_layPassing_204 (by decide) ?_
            exact ihc hal _ hJ4 hm4 hM4 g1 g2 g3 g4 g5
          have wl : ∀ J4 : MI, paQ κ t s c = true → E1 κ J4 → J4 0 41 = (mal κ t s : Int) → hMv κ t s (us κ) J4 → J4 0 51 = foC (paQ κ t s) (fun c x => z_or x (pst κ d t s c)) c (pMay κ d t s) → J4 0 52 = foC (paQ κ t s) (fun c x => z_and x (pst κ d t s c)) c (pMus κ d t s) → J4 0 53 = b01 (foC (paQ κ t s) (fun c b => b || decide (pst κ d t s c ≠ 0)) c (pAny κ d t s) = true) → J4 0 54 = b01 (foC (paQ κ t s) (fun c b => b && decide (pst κ d t s c ≠ 0)) c (pAll κ d t s) = true) → (J4 0 55 = I 0 55 ∧ J4 0 56 = I 0 56) → (∀ w, w < us κ → J4 21 (w : Int) = mvd κ t s c w) → ∀ w : Nat, w ≤ us κ → Rn G mtX8_layPassing Q 98 [(0, mr 0), (1, mi d), (2, mi ↑t), (3, mi (s : Int)), (4, mi (c : Int)), (5, mi (orf (fun w => if mvd κ t s c w = d then z_shl 1 (w : Int) else 0) w)), (6, mi (w : Int))] [] shM J4 L rM := by
            intro J4 hf hJ4 hm4 hM4 g1 g2 g3 g4 g5 h21
            have j34 : J4 0 34 = κ 0 34 := hJ4.at (by unfold sce per; omega)
            refine lpn _ (fun w hw ihw => ?_) ?_
            · have hmv := mv_r hH hs2 (t := (t : Int)) c w
              have hmw := h21 w hw
              refine x_iload dX8_layPassing_98 6 rfl ?_
              refine x_aload_n dX8_layPassing_100 0 rfl rfl ?_
              refine x_getI dX8_layPassing_101 flX8_240 rfl rfl ?_
              refine x_ic_ge (tgt := 137) dX8_layPassing_104 (by decide) (by omega) (fun h104 => ?_) (fun h104 => ?_)
              · exfalso; omega
              · refine x_iload dX8_layPassing_107 5 rfl ?_
                refine x_aload_n dX8_layPassing_109 0 rfl rfl ?_
                refine x_getR dX8_layPassing_110 flX8_71 rfl rfl rfl ?_
                refine x_iload dX8_layPassing_113 6 rfl ?_
                refine x_iald dX8_layPassing_115 rfl (by omega) ?_
                rw [hmw]
                refine x_iload_n dX8_layPassing_116 1 rfl rfl ?_
                refine x_ic_ne (tgt := 127) dX8_layPassing_117 (by decide) (by omega) (fun h117 => ?_) (fun h117 => ?_)
                · refine x_iconst dX8_layPassing_127 ?_
                  refine x_ior dX8_layPassing_128 ?_
                  refine x_istore (lv' := [(0, _), (1, _), (2, _), (3, _), (4, _), (5, _), (6, _)]) dX8_layPassing_129 rfl rfl ?_
                  refine x_iinc (lv' := [(0, _), (1, _), (2, _), (3, _), (4, _), (5, _), (6, _)]) dX8_layPassing_131 6 rfl rfl rfl ?_
                  refine x_goto (tgt := 98) dX8_layPassing_134 (by decide) ?_
                  unfold orf at ihw
                  first
                  | (rw [if_pos (by omega)] at ihw; exact ihw)
                  | (rw [if_neg (by omega)] at ihw; exact ihw)
                · refine x_iconst dX8_layPassing_120 ?_
                  refine x_iload dX8_layPassing_121 6 rfl ?_
                  refine x_ishl dX8_layPassing_123 ?_
                  refine x_goto (tgt := 128) dX8_layPassing_124 (by decide) ?_
                  refine x_ior dX8_layPassing_128 ?_
                  refine x_istore (lv' := [(0, _), (1, _), (2, _), (3, _), (4, _), (5, _), (6, _)]) dX8_layPassing_129 rfl rfl ?_
                  refine x_iinc (lv' := [(0, _), (1, _), (2, _), (3, _), (4, _), (5, _), (6, _)]) dX8_layPassing_131 6 rfl rfl rfl ?_
                  refine x_goto (tgt := 98) dX8_layPassing_134 (by decide) ?_
                  unfold orf at ihw
                  first
                  | (rw [if_pos (by omega)] at ihw; exact ihw)
                  | (rw [if_neg (by omega)] at ihw; exact ihw)
            · have hps : rI (pst κ d t s c) := orf_r _ _
              have fr : ∀ (x : Nat → Int → Int) , E1 κ J4 → E1 κ (m_up (m_up (m_up (m_up J4 0 51 (z_or (J4 0 51) (pst κ d t s c))) 0 52 (z_and (J4 0 52) (pst κ d t s c))) 0 53 1) 0 54 1) → True := fun _ _ _ => trivial
              have e53 : ∀ y : Bool, b01 (y = true) ≠ 0 ↔ y = true := fun y => b01_ne
              have q53 := b01_r (foC (paQ κ t s) (fun c b => b || decide (pst κ d t s c ≠ 0)) c (pAny κ d t s) = true)
              have q54 := b01_r (foC (paQ κ t s) (fun c b => b && decide (pst κ d t s c ≠ 0)) c (pAll κ d t s) = true)
              have fin : ∀ a b : Int, (a = 1 ∧ (J4 0 53 ≠ 0 ∨ pst κ d t s c ≠ 0) ∨ a = 0 ∧ J4 0 53 = 0 ∧ pst κ d t s c = 0) → (b = 1 ∧ J4 0 54 ≠ 0 ∧ pst κ d t s c ≠ 0 ∨ b = 0 ∧ (J4 0 54 = 0 ∨ pst κ d t s c = 0)) → ∀ lv8, lv8 = [(0, mr 0), (1, mi d), (2, mi ↑t), (3, mi (s : Int)), (4, mi (c : Int))] → Rn G mtX8_layPassing Q 201 lv8 [] shM (m_up (m_up (m_up (m_up J4 0 51 (z_or (J4 0 51) (pst κ d t s c))) 0 52 (z_and (J4 0 52) (pst κ d t s c))) 0 53 a) 0 54 b) L rM := by
                intro a b ha hb lv8 hlv
                refine nx _ ((((hJ4.up (by unfold sce per; omega)).up (by unfold sce per; omega)).up (by unfold sce per; omega)).up (by unfold sce per; omega)) (by rw [m_up_nj (by decide), m_up_nj (by decide), m_up_nj (by decide), m_up_nj (by decide)]; exact hm4) (hMv_same (fun w => (mvl_len hH.2.1 t s w).2) hM4 (fun j _ => by rw [m_up_ne (by decide), m_up_ne (by decide), m_up_ne (by decide), m_up_ne (by decide)]) (fun j _ => ⟨by rw [m_up_ne (by decide), m_up_ne (by decide), m_up_ne (by decide), m_up_ne (by decide)], by rw [m_up_ne (by decide), m_up_ne (by decide), m_up_ne (by decide), m_up_ne (by decide)]⟩)) ?_ ?_ ?_ ?_ (by rw [m_up_nj (by decide), m_up_nj (by decide), m_up_nj (by decide), m_up_nj (by decide), m_up_nj (by decide), m_up_nj (by decide), m_up_nj (by decide), m_up_nj (by decide)]; exact g5) lv8 hlv
                · rw [m_up_nj (by decide), m_up_nj (by decide), m_up_nj (by decide), m_up_eq, foC_t hf, g1]
                · rw [m_up_nj (by decide), m_up_nj (by decide), m_up_eq, foC_t hf, g2]
                · rw [m_up_nj (by decide), m_up_eq, foC_t hf]
                  rw [g3] at ha
                  rcases ha with ⟨rfl, ha⟩ | ⟨rfl, ha, ha2⟩
                  · apply b01_t
                    rw [Bool.or_eq_true, decide_eq_true_eq]
                    rcases ha with ha | ha
                    · exact Or.inl (b01_ne.mp ha)
                    · exact Or.inr ha
                  · apply b01_f
                    rw [Bool.or_eq_true, decide_eq_true_eq]
                    rintro (x1 | x1)
                    · exact (b01_eq.mp ha) x1
                    · exact x1 ha2
                · rw [m_up_eq, foC_t hf]
                  rw [g4] at hb
                  rcases hb with ⟨rfl, hb, hb2⟩ | ⟨rfl, hb⟩
                  · apply b01_t
                    rw [Bool.and_eq_true, decide_eq_true_eq]
                    exact ⟨b01_ne.mp hb, hb2⟩
                  · apply b01_f
                    rw [Bool.and_eq_true, decide_eq_true_eq]
                    rintro ⟨x1, x2⟩
                    rcases hb with hb | hb
                    · exact (b01_eq.mp hb) x1
                    · exact x2 hb
              show Rn G mtX8_layPassing Q 98 [(0, mr 0), (1, mi d), (2, mi ↑t), (3, mi (s : Int)), (4, mi (c : Int)), (5, mi (pst κ d t s c)), (6, mi (us κ : Int))] [] shM J4 L rM
              refine x_iload dX8_layPassing_98 6 rfl ?_
              refine x_aload_n dX8_layPassing_100 0 rfl rfl ?_
              refine x_getI dX8_layPassing_101 flX8_240 rfl rfl ?_
              refine x_ic_ge (tgt := 137) dX8_layPassing_104 (by decide) (by omega) (fun h104 => ?_) (fun h104 => ?_)
              · refine x_aload_n dX8_layPassing_137 0 rfl rfl ?_
                refine x_dup dX8_layPassing_138 rfl ?_
                refine x_getI dX8_layPassing_139 flX8_377 rfl rfl ?_
                refine x_iload dX8_layPassing_142 5 rfl ?_
                refine x_ior dX8_layPassing_144 ?_
                refine x_putI dX8_layPassing_145 flX8_377 rfl rfl rfl ?_
                refine x_aload_n dX8_layPassing_148 0 rfl rfl ?_
                refine x_dup dX8_layPassing_149 rfl ?_
                refine y_getI dX8_layPassing_150 flX8_380 rfl rfl (m_up_nj (by decide)) ?_
                refine x_iload dX8_layPassing_153 5 rfl ?_
                refine x_iand dX8_layPassing_155 ?_
                refine x_putI dX8_layPassing_156 flX8_380 rfl rfl rfl ?_
                refine x_aload_n dX8_layPassing_159 0 rfl rfl ?_
                refine x_aload_n dX8_layPassing_160 0 rfl rfl ?_
                refine y_getI dX8_layPassing_161 flX8_383 rfl rfl (((m_up_nj (by decide)).trans (m_up_nj (by decide)))) ?_
                refine x_if_ne (tgt := 172) dX8_layPassing_164 (by decide) (by rw [g3]; omega) (fun h164 => ?_) (fun h164 => ?_)
                · refine x_iconst dX8_layPassing_172 ?_
                  refine x_goto (tgt := 177) dX8_layPassing_173 (by decide) ?_
                  refine x_putZ dX8_layPassing_177 flX8_383 rfl rfl rfl (by omega) ?_
                  refine x_aload_n dX8_layPassing_180 0 rfl rfl ?_
                  refine x_aload_n dX8_layPassing_181 0 rfl rfl ?_
                  refine y_getI dX8_layPassing_182 flX8_387 rfl rfl (((m_up_nj (by decide)).trans (((m_up_nj (by decide)).trans (m_up_nj (by decide)))))) ?_
                  refine x_if_eq (tgt := 197) dX8_layPassing_185 (by decide) (by rw [g4]; omega) (fun h185 => ?_) (fun h185 => ?_)
                  · refine x_iconst dX8_layPassing_197 ?_
                    refine x_putZ dX8_layPassing_198 flX8_387 rfl rfl rfl (by omega) ?_
                    refine x_top (lv' := [(0, _), (1, _), (2, _), (3, _), (4, _)]) 5 rfl ?_
                    exact fin _ _ (by omega) (by omega) _ rfl
                  · refine x_iload dX8_layPassing_188 5 rfl ?_
                    refine x_if_eq (tgt := 197) dX8_layPassing_190 (by decide) (by omega) (fun h190 => ?_) (fun h190 => ?_)
                    · refine x_iconst dX8_layPassing_197 ?_
                      refine x_putZ dX8_layPassing_198 flX8_387 rfl rfl rfl (by omega) ?_
                      refine x_top (lv' := [(0, _), (1, _), (2, _), (3, _), (4, _)]) 5 rfl ?_
                      exact fin _ _ (by omega) (by omega) _ rfl
                    · refine x_iconst dX8_layPassing_193 ?_
                      refine x_goto (tgt := 198) dX8_layPassing_194 (by decide) ?_
                      refine x_putZ dX8_layPassing_198 flX8_387 rfl rfl rfl (by omega) ?_
                      refine x_top (lv' := [(0, _), (1, _), (2, _), (3, _), (4, _)]) 5 rfl ?_
                      exact fin _ _ (by omega) (by omega) _ rfl
                · refine x_iload dX8_layPassing_167 5 rfl ?_
                  refine x_if_eq (tgt := 176) dX8_layPassing_169 (by decide) (by omega) (fun h169 => ?_) (fun h169 => ?_)
                  · refine x_iconst dX8_layPassing_176 ?_
                    refine x_putZ dX8_layPassing_177 flX8_383 rfl rfl rfl (by omega) ?_
                    refine x_aload_n dX8_layPassing_180 0 rfl rfl ?_
                    refine x_aload_n dX8_layPassing_181 0 rfl rfl ?_
                    refine y_getI dX8_layPassing_182 flX8_387 rfl rfl (((m_up_nj (by decide)).trans (((m_up_nj (by decide)).trans (m_up_nj (by decide)))))) ?_
                    refine x_if_eq (tgt := 197) dX8_layPassing_185 (by decide) (by rw [g4]; omega) (fun h185 => ?_) (fun h185 => ?_)
                    · refine x_iconst dX8_layPassing_197 ?_
                      refine x_putZ dX8_layPassing_198 flX8_387 rfl rfl rfl (by omega) ?_
                      refine x_top (lv' := [(0, _), (1, _), (2, _), (3, _), (4, _)]) 5 rfl ?_
                      exact fin _ _ (by omega) (by omega) _ rfl
                    · refine x_iload dX8_layPassing_188 5 rfl ?_
                      refine x_if_eq (tgt := 197) dX8_layPassing_190 (by decide) (by omega) (fun h190 => ?_) (fun h190 => ?_)
                      · refine x_iconst dX8_layPassing_197 ?_
                        refine x_putZ dX8_layPassing_198 flX8_387 rfl rfl rfl (by omega) ?_
                        refine x_top (lv' := [(0, _), (1, _), (2, _), (3, _), (4, _)]) 5 rfl ?_
                        exact fin _ _ (by omega) (by omega) _ rfl
                      · refine x_iconst dX8_layPassing_193 ?_
                        refine x_goto (tgt := 198) dX8_layPassing_194 (by decide) ?_
                        refine x_putZ dX8_layPassing_198 flX8_387 rfl rfl rfl (by omega) ?_
                        refine x_top (lv' := [(0, _), (1, _), (2, _), (3, _), (4, _)]) 5 rfl ?_
                        exact fin _ _ (by omega) (by omega) _ rfl
                  · refine x_iconst dX8_layPassing_172 ?_
                    refine x_goto (tgt := 177) dX8_layPassing_173 (by decide) ?_
                    refine x_putZ dX8_layPassing_177 flX8_383 rfl rfl rfl (by omega) ?_
                    refine x_aload_n dX8_layPassing_180 0 rfl rfl ?_
                    refine x_aload_n dX8_layPassing_181 0 rfl rfl ?_
                    refine y_getI dX8_layPassing_182 flX8_387 rfl rfl (((m_up_nj (by decide)).trans (((m_up_nj (by decide)).trans (m_up_nj (by decide)))))) ?_
                    refine x_if_eq (tgt := 197) dX8_layPassing_185 (by decide) (by rw [g4]; omega) (fun h185 => ?_) (fun h185 => ?_)
                    · refine x_iconst dX8_layPassing_197 ?_
                      refine x_putZ dX8_layPassing_198 flX8_387 rfl rfl rfl (by omega) ?_
                      refine x_top (lv' := [(0, _), (1, _), (2, _), (3, _), (4, _)]) 5 rfl ?_
                      exact fin _ _ (by omega) (by omega) _ rfl
                    · refine x_iload dX8_layPassing_188 5 rfl ?_
                      refine x_if_eq (tgt := 197) dX8_layPassing_190 (by decide) (by omega) (fun h190 => ?_) (fun h190 => ?_)
                      · refine x_iconst dX8_layPassing_197 ?_
                        refine x_putZ dX8_layPassing_198 flX8_387 rfl rfl rfl (by omega) ?_
                        refine x_top (lv' := [(0, _), (1, _), (2, _), (3, _), (4, _)]) 5 rfl ?_
                        exact fin _ _ (by omega) (by omega) _ rfl
                      · refine x_iconst dX8_layPassing_193 ?_
                        refine x_goto (tgt := 198) dX8_layPassing_194 (by decide) ?_
                        refine x_putZ dX8_layPassing_198 flX8_387 rfl rfl rfl (by omega) ?_
                        refine x_top (lv' := [(0, _), (1, _), (2, _), (3, _), (4, _)]) 5 rfl ?_
                        exact fin _ _ (by omega) (by omega) _ rfl
              · exfalso; omega
          refine x_iload dX8_layPassing_55 4 rfl ?_
          refine x_aload_n dX8_layPassing_57 0 rfl rfl ?_
          refine x_getI dX8_layPassing_58 flX8_270 rfl rfl ?_
          refine x_ic_ge (tgt := 207) dX8_layPassing_61 (by decide) (by omega) (fun h61 => ?_) (fun h61 => ?_)
          · exfalso; omega
          · refine x_aload_n dX8_layPassing_64 0 rfl rfl ?_
            refine x_iload dX8_layPassing_65 4 rfl ?_
            refine x_callVv (as := [_]) dX8_layPassing_67 lvX8_300 rfl rfl rfl rfl rfl rfl rfl ⟨rfl, rfl⟩ (s_X8_take hJ3 hH hS hs2 hM hc) (fun I67 L67 R67 hq67 => ?_)
            obtain ⟨rfl, rfl, hE0, h42, h43, h21⟩ := hq67
            have hJ4 := hJ3.tr hE0.e1
            have hm2 : I67 0 41 = (mal κ t s : Int) := by rw [hE0 0 41 (by unfold scr0; omega)]; exact hm
            have hM2 : hMv κ t s (us κ) I67 := hMv_same (fun w => (mvl_len hH.2.1 t s w).2) hM (fun j _ => hE0 18 j (by unfold scr0; omega)) (fun j _ => ⟨hE0 19 j (by unfold scr0; omega), hE0 20 j (by unfold scr0; omega)⟩)
            refine x_aload_n dX8_layPassing_70 0 rfl rfl ?_
            refine x_iload_n dX8_layPassing_71 2 rfl rfl ?_
            refine x_callVi (as := [_]) dX8_layPassing_72 lvX8_303 rfl rfl rfl rfl rfl rfl rfl ⟨rfl, rfl⟩ (s_X8_canTake (s := s) (c := c) hJ4 hH hS (by omega) hs2 h42 h43) (fun z72 I72 L72 R72 hq72 => ?_)
            obtain ⟨rfl, rfl, rfl, rfl⟩ := hq72
            refine y_ifb_eq (tgt := 201) dX8_layPassing_75 (by decide) (fun h75 => ?_) (fun h75 => ?_)
            · have hf : ¬ paQ κ t s c = true := by
                unfold paQ
                rw [Bool.and_eq_true]
                rintro ⟨x1, x2⟩
                contradiction
              refine nx _ hJ4 hm2 hM2 ?_ ?_ ?_ ?_ (by rw [hE0 0 55 (by unfold scr0; omega), hE0 0 56 (by unfold scr0; omega)]; exact f5) _ rfl
              · rw [hE0 0 51 (by unfold scr0; omega), foC_f hf]; exact f1
              · rw [hE0 0 52 (by unfold scr0; omega), foC_f hf]; exact f2
              · rw [hE0 0 53 (by unfold scr0; omega), foC_f hf]; exact f3
              · rw [hE0 0 54 (by unfold scr0; omega), foC_f hf]; exact f4
            · refine x_aload_n dX8_layPassing_78 0 rfl rfl ?_
              refine x_iload_n dX8_layPassing_79 2 rfl rfl ?_
              refine x_iconst dX8_layPassing_80 ?_
              refine x_iadd dX8_layPassing_81 ?_
              refine x_aload_n dX8_layPassing_82 0 rfl rfl ?_
              refine x_getI dX8_layPassing_83 flX8_276 rfl rfl ?_
              rw [h43]
              refine x_callVi (as := [_, _]) dX8_layPassing_86 lvX8_333 rfl rfl rfl rfl rfl rfl rfl ⟨rfl, rfl⟩ (s_X8_isAlive (t := t + 1) hH hS (by omega) hnx hB2.1 hB2.2) (fun z86 I86 L86 R86 hq86 => ?_)
              obtain ⟨rfl, rfl, rfl, rfl⟩ := hq86
              refine y_ifb_eq (tgt := 201) dX8_layPassing_89 (by decide) (fun h89 => ?_) (fun h89 => ?_)
              · have hf : ¬ paQ κ t s c = true := by
                  unfold paQ
                  rw [Bool.and_eq_true]
                  rintro ⟨x1, x2⟩
                  contradiction
                refine nx _ hJ4 hm2 hM2 ?_ ?_ ?_ ?_ (by rw [hE0 0 55 (by unfold scr0; omega), hE0 0 56 (by unfold scr0; omega)]; exact f5) _ rfl
                · rw [hE0 0 51 (by unfold scr0; omega), foC_f hf]; exact f1
                · rw [hE0 0 52 (by unfold scr0; omega), foC_f hf]; exact f2
                · rw [hE0 0 53 (by unfold scr0; omega), foC_f hf]; exact f3
                · rw [hE0 0 54 (by unfold scr0; omega), foC_f hf]; exact f4
              · refine x_iconst dX8_layPassing_92 ?_
                refine x_istore (lv' := [(0, _), (1, _), (2, _), (3, _), (4, _), (5, _)]) dX8_layPassing_93 rfl rfl ?_
                refine x_iconst dX8_layPassing_95 ?_
                refine x_istore (lv' := [(0, _), (1, _), (2, _), (3, _), (4, _), (5, _), (6, _)]) dX8_layPassing_96 rfl rfl ?_
                exact wl _ (by unfold paQ; rw [Bool.and_eq_true]; exact ⟨by assumption, by assumption⟩) hJ4 hm2 hM2 (by rw [hE0 0 51 (by unfold scr0; omega)]; exact f1) (by rw [hE0 0 52 (by unfold scr0; omega)]; exact f2) (by rw [hE0 0 53 (by unfold scr0; omega)]; exact f3) (by rw [hE0 0 54 (by unfold scr0; omega)]; exact f4) (by rw [hE0 0 55 (by unfold scr0; omega), hE0 0 56 (by unfold scr0; omega)]; exact f5) h21 0 (by omega)
        · intro hal J3 hJ3 hm hM f1 f2 f3 f4 f5
          refine x_iload dX8_layPassing_55 4 rfl ?_
          refine x_aload_n dX8_layPassing_57 0 rfl rfl ?_
          refine x_getI dX8_layPassing_58 flX8_270 rfl rfl ?_
          refine x_ic_ge (tgt := 207) dX8_layPassing_61 (by decide) (by omega) (fun h61 => ?_) (fun h61 => ?_)
          · refine x_top (lv' := [(0, _), (1, _), (2, _), (3, _)]) 4 rfl ?_
            refine x_iinc (lv' := [(0, _), (1, _), (2, _), (3, _)]) dX8_layPassing_207 3 rfl rfl rfl ?_
            refine x_goto (tgt := 29) dX8_layPassing_210 (by decide) ?_
            refine ih _ hJ3 ?_ ?_ ?_ ?_ f5
            · unfold pMay paF; rw [foC_t hal]; exact f1
            · unfold pMus paF; rw [foC_t hal]; exact f2
            · unfold pAny paF; rw [foC_t hal]; exact f3
            · unfold pAll paF; rw [foC_t hal]; exact f4
          · exfalso; omega
      refine x_iload_n dX8_layPassing_29 3 rfl rfl ?_
      refine x_aload_n dX8_layPassing_30 0 rfl rfl ?_
      refine x_callVi (as := []) dX8_layPassing_31 lvX8_286 rfl rfl rfl rfl rfl rfl rfl ⟨rfl, rfl⟩ (s_X8_states hJ hH hS) (fun z31 I31 L31 R31 hq31 => ?_)
      obtain ⟨rfl, rfl, rfl, rfl⟩ := hq31
      refine x_ic_ge (tgt := 213) dX8_layPassing_34 (by decide) (by omega) (fun h34 => ?_) (fun h34 => ?_)
      · exfalso; omega
      · refine x_aload_n dX8_layPassing_37 0 rfl rfl ?_
        refine x_iload_n dX8_layPassing_38 2 rfl rfl ?_
        refine x_iload_n dX8_layPassing_39 3 rfl rfl ?_
        refine x_callVi (as := [_, _]) dX8_layPassing_40 lvX8_333 rfl rfl rfl rfl rfl rfl rfl ⟨rfl, rfl⟩ (s_X8_isAlive hH hS (by omega) hs hT2.1 hT2.2) (fun z40 I40 L40 R40 hq40 => ?_)
        obtain ⟨rfl, rfl, rfl, rfl⟩ := hq40
        refine y_ifb_eq (tgt := 207) dX8_layPassing_43 (by decide) (fun h43 => ?_) (fun h43 => ?_)
        · refine x_iinc (lv' := [(0, _), (1, _), (2, _), (3, _)]) dX8_layPassing_207 3 rfl rfl rfl ?_
          refine x_goto (tgt := 29) dX8_layPassing_210 (by decide) ?_
          have hna : ¬ alv κ t s = true := by assumption
          refine ih J hJ ?_ ?_ ?_ ?_ f5
          · unfold pMay paF at *; rw [foC_f hna]; exact f1
          · unfold pMus paF at *; rw [foC_f hna]; exact f2
          · unfold pAny paF at *; rw [foC_f hna]; exact f3
          · unfold pAll paF at *; rw [foC_f hna]; exact f4
        · refine x_aload_n dX8_layPassing_46 0 rfl rfl ?_
          refine x_iload_n dX8_layPassing_47 2 rfl rfl ?_
          refine x_iload_n dX8_layPassing_48 3 rfl rfl ?_
          refine x_callVv (as := [_, _]) dX8_layPassing_49 lvX8_297 rfl rfl rfl rfl rfl rfl rfl ⟨rfl, rfl⟩ (s_X8_layMoves hJ hH hS (by omega) hs2) (fun I49 L49 R49 hq49 => ?_)
          obtain ⟨rfl, rfl, hX3, hE, h41, hv41⟩ := hq49
          refine x_iconst dX8_layPassing_52 ?_
          refine x_istore (lv' := [(0, _), (1, _), (2, _), (3, _), (4, _)]) dX8_layPassing_53 rfl rfl ?_
          exact cl 0 (by omega) (by assumption) _ hE h41 hv41 (by rw [hX3 0 51 (by unfold scr3; omega)]; exact f1) (by rw [hX3 0 52 (by unfold scr3; omega)]; exact f2) (by rw [hX3 0 53 (by unfold scr3; omega)]; exact f3) (by rw [hX3 0 54 (by unfold scr3; omega)]; exact f4) (by rw [hX3 0 55 (by unfold scr3; omega), hX3 0 56 (by unfold scr3; omega)]; exact f5)
    · intro J hJ f1 f2 f3 f4 f5
      refine x_iload_n dX8_layPassing_29 3 rfl rfl ?_
      refine x_aload_n dX8_layPassing_30 0 rfl rfl ?_
      refine x_callVi (as := []) dX8_layPassing_31 lvX8_286 rfl rfl rfl rfl rfl rfl rfl ⟨rfl, rfl⟩ (s_X8_states hJ hH hS) (fun z31 I31 L31 R31 hq31 => ?_)
      obtain ⟨rfl, rfl, rfl, rfl⟩ := hq31
      refine x_ic_ge (tgt := 213) dX8_layPassing_34 (by decide) (by omega) (fun h34 => ?_) (fun h34 => ?_)
      · refine x_vret dX8_layPassing_213 rfl ?_
        rw [← hQ]
        exact ⟨rfl, hJ, rfl, rfl, f1, f2, f3, f4, f5⟩
      · exfalso; omega
  refine x_aload_n dX8_layPassing_0 0 rfl rfl ?_
  refine x_iconst dX8_layPassing_1 ?_
  refine x_putI dX8_layPassing_2 flX8_377 rfl rfl rfl ?_
  refine x_aload_n dX8_layPassing_5 0 rfl rfl ?_
  refine x_iconst dX8_layPassing_6 ?_
  refine x_aload_n dX8_layPassing_7 0 rfl rfl ?_
  refine y_getI dX8_layPassing_8 flX8_240 rfl rfl (m_up_nj (by decide)) ?_
  refine x_ishl dX8_layPassing_11 ?_
  refine x_iconst dX8_layPassing_12 ?_
  refine x_isub dX8_layPassing_13 ?_
  refine x_putI dX8_layPassing_14 flX8_380 rfl rfl rfl ?_
  refine x_aload_n dX8_layPassing_17 0 rfl rfl ?_
  refine x_iconst dX8_layPassing_18 ?_
  refine x_putZ dX8_layPassing_19 flX8_383 rfl rfl rfl (by first | omega | exact b01_z _) ?_
  refine x_aload_n dX8_layPassing_22 0 rfl rfl ?_
  refine x_iconst dX8_layPassing_23 ?_
  refine x_putZ dX8_layPassing_24 flX8_387 rfl rfl rfl (by first | omega | exact b01_z _) ?_
  refine x_iconst dX8_layPassing_27 ?_
  refine x_istore_n (lv' := [(0, _), (1, _), (2, _), (3, _)]) dX8_layPassing_28 rfl rfl rfl ?_
  refine sl 0 (by omega) _ ((((h0.up (by unfold sce per; omega)).up (by unfold sce per; omega)).up (by unfold sce per; omega)).up (by unfold sce per; omega)) ?_ ?_ ?_ ?_ (by rw [m_up_nj (by decide), m_up_nj (by decide), m_up_nj (by decide), m_up_nj (by decide), m_up_nj (by decide), m_up_nj (by decide), m_up_nj (by decide), m_up_nj (by decide)]; exact ⟨rfl, rfl⟩)
  · rw [m_up_nj (by decide), m_up_nj (by decide), m_up_nj (by decide), m_up_eq]; rfl
  · rw [m_up_nj (by decide), m_up_nj (by decide), m_up_eq, e34]; rfl
  · rw [m_up_nj (by decide), m_up_eq]; exact b01_f (by unfold pAny paF foC; decide)
  · rw [m_up_eq]; exact b01_t (by unfold pAll paF foC; rfl)
end

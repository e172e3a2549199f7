/-! THE REFERENCE'S QUESTIONS, part three: told walks, the first walk. -/
/-- two memories of one scene -/
def Sg (κ κ' : MI) : Prop := (∀ c j, c = 7 ∨ c = 8 ∨ c = 13 ∨ c = 14 ∨ c = 15 ∨ c = 16 ∨ c = 17 → κ' c j = κ c j) ∧ ∀ j, j = 11 ∨ j = 12 ∨ j = 13 ∨ j = 14 ∨ j = 34 ∨ j = 35 ∨ j = 36 ∨ j = 37 → κ' 0 j = κ 0 j
section
variable {κ κ' : MI}
theorem sg7 (h : Sg κ κ') (j : Int) : κ' 7 j = κ 7 j := h.1 7 j (by omega)
theorem sg8 (h : Sg κ κ') (j : Int) : κ' 8 j = κ 8 j := h.1 8 j (by omega)
theorem sg13 (h : Sg κ κ') (j : Int) : κ' 13 j = κ 13 j := h.1 13 j (by omega)
theorem sg14 (h : Sg κ κ') (j : Int) : κ' 14 j = κ 14 j := h.1 14 j (by omega)
theorem sg15 (h : Sg κ κ') (j : Int) : κ' 15 j = κ 15 j := h.1 15 j (by omega)
theorem sg16 (h : Sg κ κ') (j : Int) : κ' 16 j = κ 16 j := h.1 16 j (by omega)
theorem sg17 (h : Sg κ κ') (j : Int) : κ' 17 j = κ 17 j := h.1 17 j (by omega)
theorem us_sg (h : Sg κ κ') : us κ' = us κ := by unfold us; rw [h.2 34 (by omega)]
theorem lst_sg (h : Sg κ κ') : lst κ' = lst κ := by unfold lst; rw [h.2 14 (by omega)]
theorem nst_sg (h : Sg κ κ') : nst κ' = nst κ := by unfold nst; rw [us_sg h]
theorem rsK_sg (h : Sg κ κ') : rsK κ' = rsK κ := by funext s; unfold rsK; rw [us_sg h]
theorem okb_sg (h : Sg κ κ') : okb κ' = okb κ := by
  funext t s
  unfold okb
  simp only [us_sg h, rsK_sg h, sg15 h, sg16 h, sg17 h, h.2 11 (by omega)]
theorem begb_sg (h : Sg κ κ') : begb κ' = begb κ := by
  funext s
  unfold begb
  simp only [us_sg h, okb_sg h, sg8 h]
theorem mcd_sg (h : Sg κ κ') : mcd κ' = mcd κ := by
  funext t s w d
  unfold mcd
  simp only [sg7 h, sg14 h]
theorem mto_sg (h : Sg κ κ') : mto κ' = mto κ := by
  funext s w d
  unfold mto
  simp only [sg7 h, sg8 h]
theorem mlp_sg (h : Sg κ κ') : mlp κ' = mlp κ := by
  funext t s w d
  induction d with
  | zero => rfl
  | succ d ih => unfold mlp; rw [ih, mcd_sg h, mto_sg h]
theorem mvl_sg (h : Sg κ κ') : mvl κ' = mvl κ := by
  funext t s w
  unfold mvl
  rw [mlp_sg h, h.2 12 (by omega)]
theorem mal_sg (h : Sg κ κ') : mal κ' = mal κ := by funext t s; unfold mal; rw [mvl_sg h, us_sg h]
theorem mvd_sg (h : Sg κ κ') : mvd κ' = mvd κ := by funext t s c w; unfold mvd mix; rw [mvl_sg h]
theorem mvt_sg (h : Sg κ κ') : mvt κ' = mvt κ := by funext t s c w; unfold mvt mix; rw [mvl_sg h]
theorem pas_sg (h : Sg κ κ') : pas κ' = pas κ := by funext t s c; unfold pas; rw [mvd_sg h, us_sg h]
theorem nxt_sg (h : Sg κ κ') : nxt κ' = nxt κ := by funext t s c; unfold nxt; rw [mvt_sg h, us_sg h]
theorem byK_sg (h : Sg κ κ') : byK κ' = byK κ := by
  funext t
  unfold byK
  rw [h.2 35 (by omega), h.2 36 (by omega), h.2 37 (by omega)]
theorem vld_sg (h : Sg κ κ') : vld κ' = vld κ := by funext t s c; unfold vld; rw [pas_sg h, byK_sg h, sg13 h, okb_sg h, nxt_sg h]
theorem stp_sg (h : Sg κ κ') : stp κ' = stp κ := by
  funext t s v A c
  induction c with
  | zero => rfl
  | succ c ih => unfold stp; rw [ih, vld_sg h, nxt_sg h]
theorem rwl_sg (h : Sg κ κ') : rwl κ' = rwl κ := by
  funext t F n
  induction n with
  | zero => rfl
  | succ n ih => unfold rwl; rw [ih, stp_sg h, mal_sg h]
theorem Fr_sg (h : Sg κ κ') : Fr κ' = Fr κ := by
  funext t
  induction t with
  | zero => unfold Fr; rw [begb_sg h]
  | succ t ih => unfold Fr; rw [ih, rwl_sg h, nst_sg h]
theorem rst_sg (h : Sg κ κ') : rst κ' = rst κ := by
  funext t s B c
  induction c with
  | zero => rfl
  | succ c ih => unfold rst; rw [ih, vld_sg h, nxt_sg h]
theorem Rb_sg (h : Sg κ κ') : Rb κ' = Rb κ := by
  funext u
  induction u with
  | zero => unfold Rb; rw [Fr_sg h, lst_sg h]
  | succ u ih => unfold Rb; rw [ih, Fr_sg h, lst_sg h, rst_sg h, mal_sg h]
theorem Re_sg (h : Sg κ κ') : Re κ' = Re κ := by funext t s; unfold Re; rw [Rb_sg h, lst_sg h]
theorem alv_sg (h : Sg κ κ') : alv κ' = alv κ := by funext t s; unfold alv; rw [Fr_sg h, Re_sg h]
theorem Tb_sg (h : Sg κ κ') {L : MI} (k : Tb κ L) : Tb κ' L := by
  unfold Tb
  rw [lst_sg h, nst_sg h, Fr_sg h, Re_sg h]
  exact k
theorem gF_sg (h : Sg κ κ') : gF κ' = gF κ := by funext t s c W; unfold gF; rw [vld_sg h, alv_sg h, nxt_sg h]
theorem gW_sg (h : Sg κ κ') : gW κ' = gW κ := by funext t V; unfold gW; rw [gF_sg h, mal_sg h, nst_sg h]
theorem bgV_sg (h : Sg κ κ') : bgV κ' = bgV κ := by funext v s; unfold bgV; rw [alv_sg h]
theorem iHs_sg (h : Sg κ κ') (k : iHs κ) : iHs κ' := by
  unfold iHs
  simp only [h.2 11 (by omega), h.2 12 (by omega), h.2 13 (by omega), h.2 14 (by omega), sg7 h, sg8 h]
  exact k
theorem iSc_sg (h : Sg κ κ') (k : iSc κ) : iSc κ' := by
  unfold iSc
  simp only [h.2 13 (by omega), h.2 34 (by omega), h.2 35 (by omega), h.2 36 (by omega), h.2 37 (by omega), sg13 h, sg14 h, sg15 h, sg16 h, sg17 h]
  exact k
end
def leF (V : Nat → Int) (w : Nat) : Nat → Int
  | 0 => 6
  | s + 1 => if 0 ≤ V s ∧ (rm s w : Int) < leF V w s then (rm s w : Int) else leF V w s
theorem leF_r (V : Nat → Int) (w : Nat) : ∀ n, n ≤ 1728 → 0 ≤ leF V w n ∧ leF V w n ≤ 6
  | 0, _ => by unfold leF; omega
  | n + 1, h => by
    have := leF_r V w n (by omega)
    unfold leF
    split <;> omega
def juV (κ : MI) (w : Nat) (row : Nat → Int) : Nat → Nat → Int
  | 0 => bgV κ 0
  | t + 1 => gW κ t (keF (juV κ w row t) w (row t))
def judR (κ : MI) (w : Nat) (row : Nat → Int) : Nat → Nat → Int
  | 0, _ => -9
  | n + 1, t => if anv (keF (juV κ w row t) w (row t)) (nst κ) then judR κ w row n (t + 1) else (t : Int)
def wyV (κ : MI) (w : Nat) : Nat → Nat → Int
  | 0 => bgV κ 0
  | t + 1 => gW κ t (keF (wyV κ w t) w (leF (wyV κ w t) w (nst κ)))
/-- row r holds the first k rooms of the first walk -/
def wyM (κ : MI) (w : Nat) (r n k : Int) (I : MI) : MI := fun c j => if c = 2 ∧ j = r then n else if c = 3 ∧ 40 * r ≤ j ∧ j < 40 * r + 40 then (if j - 40 * r < k then leF (wyV κ w (j - 40 * r).toNat) w (nst κ) else 0) else I c j
noncomputable def s_judge (w r : Int) (I : MI) : Int × MI := if w < 0 ∨ I 0 13 ≤ w ∨ r < 0 ∨ 5 < r then (-1, I) else if I 2 r < 0 then (-3, a_mt I 1) else if I 2 r ≠ I 0 14 + 1 then (-3, a_mt I 5)
  else if al (fun t => decide (0 ≤ I 3 (40 * r + (t : Int)) ∧ I 3 (40 * r + (t : Int)) ≤ I 0 11 - 1)) (I 0 14 + 1).toNat = false then (-3, a_mt I 3) else if okA I = false then (-3, a_mt I 4)
  else (judR (kap I 0 (I 0 13)) w.toNat (fun t => I 3 (40 * r + (t : Int))) (I 0 14 + 1).toNat 0, I)
noncomputable def s_way (w r : Int) (I : MI) : Int × MI := if w < 0 ∨ I 0 13 ≤ w ∨ r < 0 ∨ 5 < r then (-1, I) else if okA I = false then (-3, a_mt I 4) else (I 0 14 + 1, wyM (kap I 0 (I 0 13)) w.toNat r (I 0 14 + 1) (I 0 14 + 1) I)
theorem vrI {V : Nat → Int} (h : ∀ s, -1 ≤ V s ∧ V s ≤ 40) (s : Nat) : rI (V s) := by have := h s; omega
theorem upn_r {W : Nat → Int} {k : Nat} {v : Int} (h : ∀ s, -1 ≤ W s ∧ W s ≤ 40) (hv : -1 ≤ v ∧ v ≤ 40) (s : Nat) : -1 ≤ upn W k v s ∧ upn W k v s ≤ 40 := by
  unfold upn
  split
  · exact hv
  · exact h s
theorem gF_r {κ : MI} {t s c : Nat} {W : Nat → Int} (h : ∀ s, -1 ≤ W s ∧ W s ≤ 40) (x : Nat) : -1 ≤ gF κ t s c W x ∧ gF κ t s c W x ≤ 40 := by
  unfold gF
  split
  · exact upn_r h (by omega) x
  · exact h x
theorem swC_r {f : Nat → (Nat → Int) → (Nat → Int)} (hf : ∀ c W, (∀ s, -1 ≤ W s ∧ W s ≤ 40) → ∀ x, -1 ≤ f c W x ∧ f c W x ≤ 40) : ∀ (c : Nat) (W : Nat → Int), (∀ s, -1 ≤ W s ∧ W s ≤ 40) → ∀ x, -1 ≤ swC f c W x ∧ swC f c W x ≤ 40
  | 0, W, h => h
  | c + 1, W, h => hf c _ (swC_r hf c W h)
theorem swS_r {V : Nat → Int} {f : Nat → Nat → (Nat → Int) → (Nat → Int)} {m : Nat → Nat} (hf : ∀ s c W, (∀ s, -1 ≤ W s ∧ W s ≤ 40) → ∀ x, -1 ≤ f s c W x ∧ f s c W x ≤ 40) : ∀ (n : Nat) (W : Nat → Int), (∀ s, -1 ≤ W s ∧ W s ≤ 40) → ∀ x, -1 ≤ swS V f m n W x ∧ swS V f m n W x ≤ 40
  | 0, W, h => h
  | n + 1, W, h => by
    unfold swS
    split
    · exact swC_r (hf n) _ _ (swS_r hf n W h)
    · exact swS_r hf n W h
theorem gW_r {κ : MI} {t : Nat} {V : Nat → Int} (x : Nat) : -1 ≤ gW κ t V x ∧ gW κ t V x ≤ 40 := swS_r (fun s c W h x => gF_r h x) _ _ (fun _ => by omega) x
theorem bgV_r {κ : MI} {v : Int} (hv : -1 ≤ v ∧ v ≤ 40) (x : Nat) : -1 ≤ bgV κ v x ∧ bgV κ v x ≤ 40 := by unfold bgV; split <;> omega
theorem keF_r {V : Nat → Int} {w : Nat} {r : Int} (x : Nat) : -1 ≤ keF V w r x ∧ keF V w r x ≤ 40 := by unfold keF; split <;> omega
theorem juV_r {κ : MI} {w : Nat} {row : Nat → Int} : ∀ (t x : Nat), -1 ≤ juV κ w row t x ∧ juV κ w row t x ≤ 40
  | 0, x => bgV_r (by omega) x
  | _ + 1, x => gW_r x
theorem wyV_r {κ : MI} {w : Nat} : ∀ (t x : Nat), -1 ≤ wyV κ w t x ∧ wyV κ w t x ≤ 40
  | 0, x => bgV_r (by omega) x
  | _ + 1, x => gW_r x
section
variable {G : GT} {sh : MS} {I L : MI} {R : MR} {κ : MI}

theorem s_X8_goesOn {t : Nat} {V : Nat → Int} (h0 : E1 κ I) (hH : iHs κ) (hS : iSc κ) (hB : Tb κ L) (ht : t < lst κ) (hr : ∀ x, -1 ≤ V x ∧ V x ≤ 40) (hV : ∀ x : Nat, x < nst κ → I 24 (x : Int) = V x ∧ I 25 (x : Int) = -1) : Sp G mtX8_goesOn [mr 0, mi ↑t] shM I L rM (qv (fun I' L' R' => L = L' ∧ R' = rM ∧ E1 κ I' ∧ ∀ s : Nat, s < nst κ → I' 24 (s : Int) = gW κ t V s ∧ I' 25 (s : Int) = -1)) := by
  refine Sp.of pnX8_goesOn rfl ?_
  show Rn G mtX8_goesOn _ 0 [(0, mr 0), (1, mi ↑t)] [] shM I L rM
  generalize hQ : (qv (fun I' L' R' => L = L' ∧ R' = rM ∧ E1 κ I' ∧ ∀ s : Nat, s < nst κ → I' 24 (s : Int) = gW κ t V s ∧ I' 25 (s : Int) = -1)) = Q
  have hu := us_le hH hS
  have hnn := (nst_le hH hS).2
  have hT := hH.2.2.2.1
  have hlt : (lst κ : Int) = κ 0 14 := by unfold lst; omega
  have main : ∀ s : Nat, s ≤ nst κ → ∀ J, E1 κ J → (∀ x : Nat, x < nst κ → J 24 (x : Int) = V x) → (∀ x : Nat, x < nst κ → J 25 (x : Int) = swS V (gF κ t) (fun s => mal κ t s) s (fun _ => -1) x) → Rn G mtX8_goesOn Q 2 [(0, mr 0), (1, mi ↑t), (2, mi (s : Int))] [] shM J L rM := by
    refine lpn _ (fun s hs ih => ?_) ?_
    · intro J hJ hJV hJW
      have hs2 : s < 1728 := by omega
      have hml : mal κ t s ≤ 729 := mal_le hH hS t s
      have hvs := hJV s hs
      have hrs := hr s
      have cl : ∀ c : Nat, c ≤ mal κ t s → 0 ≤ V s → ∀ J3, E1 κ J3 → J3 0 41 = (mal κ t s : Int) → hMv κ t s (us κ) J3 → (∀ x : Nat, x < nst κ → J3 24 (x : Int) = V x) → (∀ x : Nat, x < nst κ → J3 25 (x : Int) = swC (gF κ t s) c (swS V (gF κ t) (fun s => mal κ t s) s (fun _ => -1)) x) → Rn G mtX8_goesOn Q 27 [(0, mr 0), (1, mi ↑t), (2, mi (s : Int)), (3, mi (c : Int))] [] shM J3 L rM := by
        refine lpn _ (fun c hc ihc => ?_) ?_
        · intro hpos J3 hJ3 hm hM hV3 hW3
          have hnx := nxt_lt hH hs2 (t := (t : Int)) c
          have hB2 := hB (t + 1) _ (by omega) hnx
          refine x_iload_n dX8_goesOn_27 3 rfl rfl ?_
          refine x_aload_n dX8_goesOn_28 0 rfl rfl ?_
          refine x_getI dX8_goesOn_29 flX8_270 rfl rfl ?_
          refine x_ic_ge (tgt := 78) dX8_goesOn_32 (by decide) (by omega) (fun h32 => ?_) (fun h32 => ?_)
          · exfalso; omega
          · refine x_aload_n dX8_goesOn_35 0 rfl rfl ?_
            refine x_iload_n dX8_goesOn_36 3 rfl rfl ?_
            refine x_callVv (as := [_]) dX8_goesOn_37 lvX8_300 rfl rfl rfl rfl rfl rfl rfl ⟨rfl, rfl⟩ (s_X8_take hJ3 hH hS hs2 hM hc) (fun I37 L37 R37 hq37 => ?_)
            obtain ⟨rfl, rfl, hE0, h42, h43, h21⟩ := hq37
            have hJ4 := hJ3.tr hE0.e1
            have hm2 : I37 0 41 = (mal κ t s : Int) := by rw [hE0 0 41 (by unfold scr0; omega)]; exact hm
            have hM2 : hMv κ t s (us κ) I37 := hMv_same (fun w => (mvl_len hH.2.1 t s w).2) hM (fun j _ => hE0 18 j (by unfold scr0; omega)) (fun j _ => ⟨hE0 19 j (by unfold scr0; omega), hE0 20 j (by unfold scr0; omega)⟩)
            refine x_aload_n dX8_goesOn_40 0 rfl rfl ?_
            refine x_iload_n dX8_goesOn_41 1 rfl rfl ?_
            refine x_callVi (as := [_]) dX8_goesOn_42 lvX8_303 rfl rfl rfl rfl rfl rfl rfl ⟨rfl, rfl⟩ (s_X8_canTake (s := s) (c := c) hJ4 hH hS (by omega) hs2 h42 h43) (fun z42 I42 L42 R42 hq42 => ?_)
            obtain ⟨rfl, rfl, rfl, rfl⟩ := hq42
            refine y_ifb_eq (tgt := 72) dX8_goesOn_45 (by decide) (fun h45 => ?_) (fun h45 => ?_)
            · refine x_iinc (lv' := [(0, _), (1, _), (2, _), (3, _)]) dX8_goesOn_72 3 rfl rfl rfl ?_
              refine x_goto (tgt := 27) dX8_goesOn_75 (by decide) ?_
              first
              | (have hf : ¬ (vld κ t s c && alv κ (t + 1) (nxt κ t s c)) = true := by
                   rw [Bool.and_eq_true]
                   first | (rintro ⟨x1, x2⟩; contradiction)
                 refine ihc hpos _ hJ4 hm2 hM2 (fun x hx => by rw [hE0 24 _ (by unfold scr0; omega)]; exact hV3 x hx) (fun x hx => ?_)
                 rw [hE0 25 _ (by unfold scr0; omega), hW3 x hx]
                 show _ = (if (vld κ t s c && alv κ (t + 1) (nxt κ t s c)) = true then upn _ _ _ else _) x
                 rw [if_neg hf])
              | (have hf : (vld κ t s c && alv κ (t + 1) (nxt κ t s c)) = true := by
                   rw [Bool.and_eq_true]
                   exact ⟨by assumption, by assumption⟩
                 refine ihc hpos _ (hJ4.up (by unfold sce per; omega)) (by rw [m_up_ne (by decide)]; exact hm2) (hMv_same (fun w => (mvl_len hH.2.1 t s w).2) hM2 (fun j _ => m_up_ne (by decide) j) (fun j _ => ⟨m_up_ne (by decide) j, m_up_ne (by decide) j⟩)) (fun x hx => by rw [m_up_ne (by decide), hE0 24 _ (by unfold scr0; omega)]; exact hV3 x hx) (fun x hx => ?_)
                 show _ = (if (vld κ t s c && alv κ (t + 1) (nxt κ t s c)) = true then upn (swC (gF κ t s) c (swS V (gF κ t) (fun s => mal κ t s) s (fun _ => -1))) (nxt κ t s c) 0 else _) x
                 rw [if_pos hf]
                 unfold upn
                 by_cases e : x = nxt κ t s c
                 · rw [if_pos e, e, m_up_eq]
                 · rw [if_neg e, m_up_nj (by omega), hE0 25 _ (by unfold scr0; omega)]
                   exact hW3 x hx)
            · refine x_aload_n dX8_goesOn_48 0 rfl rfl ?_
              refine x_iload_n dX8_goesOn_49 1 rfl rfl ?_
              refine x_iconst dX8_goesOn_50 ?_
              refine x_iadd dX8_goesOn_51 ?_
              refine x_aload_n dX8_goesOn_52 0 rfl rfl ?_
              refine x_getI dX8_goesOn_53 flX8_276 rfl rfl ?_
              rw [h43]
              refine x_callVi (as := [_, _]) dX8_goesOn_56 lvX8_333 rfl rfl rfl rfl rfl rfl rfl ⟨rfl, rfl⟩ (s_X8_isAlive (t := t + 1) hH hS (by omega) hnx hB2.1 hB2.2) (fun z56 I56 L56 R56 hq56 => ?_)
              obtain ⟨rfl, rfl, rfl, rfl⟩ := hq56
              refine y_ifb_eq (tgt := 72) dX8_goesOn_59 (by decide) (fun h59 => ?_) (fun h59 => ?_)
              · refine x_iinc (lv' := [(0, _), (1, _), (2, _), (3, _)]) dX8_goesOn_72 3 rfl rfl rfl ?_
                refine x_goto (tgt := 27) dX8_goesOn_75 (by decide) ?_
                first
                | (have hf : ¬ (vld κ t s c && alv κ (t + 1) (nxt κ t s c)) = true := by
                     rw [Bool.and_eq_true]
                     first | (rintro ⟨x1, x2⟩; contradiction)
                   refine ihc hpos _ hJ4 hm2 hM2 (fun x hx => by rw [hE0 24 _ (by unfold scr0; omega)]; exact hV3 x hx) (fun x hx => ?_)
                   rw [hE0 25 _ (by unfold scr0; omega), hW3 x hx]
                   show _ = (if (vld κ t s c && alv κ (t + 1) (nxt κ t s c)) = true then upn _ _ _ else _) x
                   rw [if_neg hf])
                | (have hf : (vld κ t s c && alv κ (t + 1) (nxt κ t s c)) = true := by
                     rw [Bool.and_eq_true]
                     exact ⟨by assumption, by assumption⟩
                   refine ihc hpos _ (hJ4.up (by unfold sce per; omega)) (by rw [m_up_ne (by decide)]; exact hm2) (hMv_same (fun w => (mvl_len hH.2.1 t s w).2) hM2 (fun j _ => m_up_ne (by decide) j) (fun j _ => ⟨m_up_ne (by decide) j, m_up_ne (by decide) j⟩)) (fun x hx => by rw [m_up_ne (by decide), hE0 24 _ (by unfold scr0; omega)]; exact hV3 x hx) (fun x hx => ?_)
                   show _ = (if (vld κ t s c && alv κ (t + 1) (nxt κ t s c)) = true then upn (swC (gF κ t s) c (swS V (gF κ t) (fun s => mal κ t s) s (fun _ => -1))) (nxt κ t s c) 0 else _) x
                   rw [if_pos hf]
                   unfold upn
                   by_cases e : x = nxt κ t s c
                   · rw [if_pos e, e, m_up_eq]
                   · rw [if_neg e, m_up_nj (by omega), hE0 25 _ (by unfold scr0; omega)]
                     exact hW3 x hx)
              · refine x_aload_n dX8_goesOn_62 0 rfl rfl ?_
                refine x_getR dX8_goesOn_63 flX8_85 rfl rfl rfl ?_
                refine x_aload_n dX8_goesOn_66 0 rfl rfl ?_
                refine x_getI dX8_goesOn_67 flX8_276 rfl rfl ?_
                rw [h43]
                refine x_iconst dX8_goesOn_70 ?_
                refine x_iast dX8_goesOn_71 rfl (by omega) ?_
                refine x_iinc (lv' := [(0, _), (1, _), (2, _), (3, _)]) dX8_goesOn_72 3 rfl rfl rfl ?_
                refine x_goto (tgt := 27) dX8_goesOn_75 (by decide) ?_
                first
                | (have hf : ¬ (vld κ t s c && alv κ (t + 1) (nxt κ t s c)) = true := by
                     rw [Bool.and_eq_true]
                     first | (rintro ⟨x1, x2⟩; contradiction)
                   refine ihc hpos _ hJ4 hm2 hM2 (fun x hx => by rw [hE0 24 _ (by unfold scr0; omega)]; exact hV3 x hx) (fun x hx => ?_)
                   rw [hE0 25 _ (by unfold scr0; omega), hW3 x hx]
                   show _ = (if (vld κ t s c && alv κ (t + 1) (nxt κ t s c)) = true then upn _ _ _ else _) x
                   rw [if_neg hf])
                | (have hf : (vld κ t s c && alv κ (t + 1) (nxt κ t s c)) = true := by
                     rw [Bool.and_eq_true]
                     exact ⟨by assumption, by assumption⟩
                   refine ihc hpos _ (hJ4.up (by unfold sce per; omega)) (by rw [m_up_ne (by decide)]; exact hm2) (hMv_same (fun w => (mvl_len hH.2.1 t s w).2) hM2 (fun j _ => m_up_ne (by decide) j) (fun j _ => ⟨m_up_ne (by decide) j, m_up_ne (by decide) j⟩)) (fun x hx => by rw [m_up_ne (by decide), hE0 24 _ (by unfold scr0; omega)]; exact hV3 x hx) (fun x hx => ?_)
                   show _ = (if (vld κ t s c && alv κ (t + 1) (nxt κ t s c)) = true then upn (swC (gF κ t s) c (swS V (gF κ t) (fun s => mal κ t s) s (fun _ => -1))) (nxt κ t s c) 0 else _) x
                   rw [if_pos hf]
                   unfold upn
                   by_cases e : x = nxt κ t s c
                   · rw [if_pos e, e, m_up_eq]
                   · rw [if_neg e, m_up_nj (by omega), hE0 25 _ (by unfold scr0; omega)]
                     exact hW3 x hx)
        · intro hpos J3 hJ3 hm hM hV3 hW3
          refine x_iload_n dX8_goesOn_27 3 rfl rfl ?_
          refine x_aload_n dX8_goesOn_28 0 rfl rfl ?_
          refine x_getI dX8_goesOn_29 flX8_270 rfl rfl ?_
          refine x_ic_ge (tgt := 78) dX8_goesOn_32 (by decide) (by omega) (fun h32 => ?_) (fun h32 => ?_)
          · refine x_iinc (lv' := [(0, _), (1, _), (2, _), (3, _)]) dX8_goesOn_78 2 rfl rfl rfl ?_
            refine x_goto (tgt := 2) dX8_goesOn_81 (by decide) ?_
            refine x_top (lv' := [(0, _), (1, _), (2, _)]) 3 rfl ?_
            refine ih J3 hJ3 hV3 (fun x hx => ?_)
            rw [swS_t hpos]
            exact hW3 x hx
          · exfalso; omega
      refine x_iload_n dX8_goesOn_2 2 rfl rfl ?_
      refine x_aload_n dX8_goesOn_3 0 rfl rfl ?_
      refine x_callVi (as := []) dX8_goesOn_4 lvX8_286 rfl rfl rfl rfl rfl rfl rfl ⟨rfl, rfl⟩ (s_X8_states hJ hH hS) (fun z4 I4 L4 R4 hq4 => ?_)
      obtain ⟨rfl, rfl, rfl, rfl⟩ := hq4
      refine x_ic_ge (tgt := 84) dX8_goesOn_7 (by decide) (by omega) (fun h7 => ?_) (fun h7 => ?_)
      · exfalso; omega
      · refine x_aload_n dX8_goesOn_10 0 rfl rfl ?_
        refine x_getR dX8_goesOn_11 flX8_82 rfl rfl rfl ?_
        refine x_iload_n dX8_goesOn_14 2 rfl rfl ?_
        refine x_iald dX8_goesOn_15 rfl (by omega) ?_
        refine x_if_lt (tgt := 78) dX8_goesOn_16 (by decide) (by omega) (fun h16 => ?_) (fun h16 => ?_)
        · refine x_iinc (lv' := [(0, _), (1, _), (2, _)]) dX8_goesOn_78 2 rfl rfl rfl ?_
          refine x_goto (tgt := 2) dX8_goesOn_81 (by decide) ?_
          refine ih J hJ hJV (fun x hx => ?_)
          rw [swS_f (by omega)]
          exact hJW x hx
        · refine x_aload_n dX8_goesOn_19 0 rfl rfl ?_
          refine x_iload_n dX8_goesOn_20 1 rfl rfl ?_
          refine x_iload_n dX8_goesOn_21 2 rfl rfl ?_
          refine x_callVv (as := [_, _]) dX8_goesOn_22 lvX8_297 rfl rfl rfl rfl rfl rfl rfl ⟨rfl, rfl⟩ (s_X8_layMoves hJ hH hS (by omega) hs2) (fun I22 L22 R22 hq22 => ?_)
          obtain ⟨rfl, rfl, hX3, hE, h41, hv41⟩ := hq22
          refine x_iconst dX8_goesOn_25 ?_
          refine x_istore_n (lv' := [(0, _), (1, _), (2, _), (3, _)]) dX8_goesOn_26 rfl rfl rfl ?_
          exact cl 0 (by omega) (by omega) _ hE h41 hv41 (fun x hx => by rw [hX3 24 _ (by unfold scr3; omega)]; exact hJV x hx) (fun x hx => by rw [hX3 25 _ (by unfold scr3; omega)]; exact hJW x hx)
    · intro J hJ hJV hJW
      refine x_iload_n dX8_goesOn_2 2 rfl rfl ?_
      refine x_aload_n dX8_goesOn_3 0 rfl rfl ?_
      refine x_callVi (as := []) dX8_goesOn_4 lvX8_286 rfl rfl rfl rfl rfl rfl rfl ⟨rfl, rfl⟩ (s_X8_states hJ hH hS) (fun z4 I4 L4 R4 hq4 => ?_)
      obtain ⟨rfl, rfl, rfl, rfl⟩ := hq4
      refine x_ic_ge (tgt := 84) dX8_goesOn_7 (by decide) (by omega) (fun h7 => ?_) (fun h7 => ?_)
      · refine x_aload_n dX8_goesOn_84 0 rfl rfl ?_
        refine x_callVv (as := []) dX8_goesOn_85 lvX8_355 rfl rfl rfl rfl rfl rfl rfl ⟨rfl, rfl⟩ (s_X8_turnValues hJ hH hS) (fun I85 L85 R85 hq85 => ?_)
        obtain ⟨rfl, rfl, ht1, ht2⟩ := hq85
        refine x_vret dX8_goesOn_88 rfl ?_
        rw [← hQ]
        exact ⟨rfl, rfl, rfl, fun c j q => by rw [ht1 c j (by unfold sce per at q; omega) (by unfold sce per at q; omega)]; exact hJ c j q, fun s hs => ⟨by rw [(ht2 s hs).1]; exact hJW s hs, (ht2 s hs).2⟩⟩
      · exfalso; omega
  refine x_iconst dX8_goesOn_0 ?_
  refine x_istore_n (lv' := [(0, _), (1, _), (2, _)]) dX8_goesOn_1 rfl rfl rfl ?_
  exact main 0 (by omega) I h0 (fun x hx => (hV x hx).1) (fun x hx => (hV x hx).2)
end

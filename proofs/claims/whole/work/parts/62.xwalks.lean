/-! THE CLASS: the Walks: values changed one by one; what may, must be. -/
/-- the first n values of a, each by f -/
def mapL (L : MI) (a n : Nat) (f : Nat → Int → Int) : MI := fun c i => if c = a ∧ 0 ≤ i ∧ i < (n : Int) then f i.toNat (L a i) else L c i
theorem mapL_0 (L : MI) (a : Nat) (f : Nat → Int → Int) : mapL L a 0 f = L := by
  funext c i
  unfold mapL
  rw [if_neg (by omega)]
theorem mapL_ne {L : MI} {a n : Nat} {f : Nat → Int → Int} {c : Nat} (h : c ≠ a) (i : Int) : mapL L a n f c i = L c i := by
  unfold mapL
  rw [if_neg (fun q => h q.1)]
theorem mapL_in {L : MI} {a n j : Nat} {f : Nat → Int → Int} (h : j < n) : mapL L a n f a (j : Int) = f j (L a (j : Int)) := by
  unfold mapL
  rw [if_pos ⟨rfl, by omega, by omega⟩, Int.toNat_natCast]
theorem mapL_out {L : MI} {a n : Nat} {f : Nat → Int → Int} {i : Int} (h : (n : Int) ≤ i) : mapL L a n f a i = L a i := by
  unfold mapL
  rw [if_neg (by omega)]
theorem mapL_up (L : MI) (a n : Nat) (f : Nat → Int → Int) : m_up (mapL L a n f) a (n : Int) (f n (L a (n : Int))) = mapL L a (n + 1) f := by
  funext c i
  unfold m_up mapL
  by_cases h : c = a ∧ i = (n : Int)
  · obtain ⟨rfl, rfl⟩ := h
    rw [if_pos ⟨rfl, rfl⟩, if_pos ⟨rfl, by omega, by omega⟩, Int.toNat_natCast]
  · rw [if_neg h]
    by_cases h2 : c = a ∧ 0 ≤ i ∧ i < (n : Int)
    · rw [if_pos h2, if_pos ⟨h2.1, by omega, by omega⟩]
    · rw [if_neg h2, if_neg (by omega)]
theorem mapL_same (L : MI) (a n : Nat) (f : Nat → Int → Int) (h : f n (L a (n : Int)) = L a (n : Int)) : mapL L a n f = mapL L a (n + 1) f := by
  rw [← mapL_up, h]
  funext c i
  unfold m_up
  by_cases h : c = a ∧ i = (n : Int)
  · obtain ⟨rfl, rfl⟩ := h
    rw [if_pos ⟨rfl, rfl⟩, mapL_out (by omega)]
  · rw [if_neg h]
def kpX (I : MI) (p : Nat) (w r : Int) (j : Nat) (x : Int) : Int := if z_and (I (p + 7) (j : Int)) (z_shl 1 (6 * w + r)) = 0 then 0 else x
def mbF (I L : MI) (p t : Nat) : Nat → Int
  | 0 => 0
  | k + 1 => if inX L k t then z_or (mbF I L p t k) (I (p + 7) (k : Int)) else mbF I L p t k
def muF (I L : MI) (p t : Nat) : Nat → Int
  | 0 => -1
  | k + 1 => if inX L k t then z_and (muF I L p t k) (I (p + 7) (k : Int)) else muF I L p t k
section
variable {G : GT} {I L : MI} {R : MR} {p h na nb nk : Nat}

theorem s_X6_keepIn {n : Nat} {w r : Int} (hW : isW R p na nb nk) (hn : I p 3 = (n : Int)) (hn2 : n ≤ 1728) : Sp G mtX6_keepIn [mr 19, mi w, mi r] shX I L R (qv (fun I' L' R' => I = I' ∧ L' = mapL L na n (kpX I p w r) ∧ R = R')) := by
  refine Sp.of pnX6_keepIn rfl ?_
  show Rn G mtX6_keepIn _ 0 [(0, mr 19), (1, mi w), (2, mi r)] [] shX I L R
  generalize hQ : (qv (fun I' L' R' => I = I' ∧ L' = mapL L na n (kpX I p w r) ∧ R = R')) = Q
  have loop : ∀ j : Nat, j ≤ n → Rn G mtX6_keepIn Q 2 [(0, mr 19), (1, mi w), (2, mi r), (3, mi (j : Int))] [] shX I (mapL L na j (kpX I p w r)) R := by
    refine lpn n (fun j hj ih => ?_) ?_
    · refine x_iload_n dX6_keepIn_2 3 rfl rfl ?_
      refine x_aload_n dX6_keepIn_3 0 rfl rfl ?_
      refine x_getR dX6_keepIn_4 flX6_54 rfl rfl hW.2.2.1 ?_
      refine x_getI dX6_keepIn_7 flX6_85 (shP0 hW.2.1) rfl ?_
      rw [hn]
      refine x_ic_ge (tgt := 44) dX6_keepIn_10 (by decide) (by first | omega | exact ⟨z_and_r _ _, by omega⟩ | exact z_and_r _ _) (fun h10 => ?_) (fun h10 => ?_)
      · exfalso; omega
      · refine x_aload_n dX6_keepIn_13 0 rfl rfl ?_
        refine x_getR dX6_keepIn_14 flX6_54 rfl rfl hW.2.2.1 ?_
        refine x_getR dX6_keepIn_17 flX6_88 (shP0 hW.2.1) rfl hW.2.1.2.2.2.2.2.2.2 ?_
        refine x_iload_n dX6_keepIn_20 3 rfl rfl ?_
        refine x_iald dX6_keepIn_21 (shP7 hW.2.1) (by omega) ?_
        refine x_iload_n dX6_keepIn_22 1 rfl rfl ?_
        refine x_iload_n dX6_keepIn_23 2 rfl rfl ?_
        refine x_callNi (as := [_, _]) dX6_keepIn_24 lvX6_226 rfl rfl rfl rfl ⟨rfl, rfl⟩ (s_X7_roomBit) (fun z24 I24 L24 R24 hq24 => ?_)
        obtain ⟨rfl, rfl, rfl, rfl⟩ := hq24
        refine x_iand dX6_keepIn_27 ?_
        refine x_if_ne (tgt := 38) dX6_keepIn_28 (by decide) (by first | omega | exact ⟨z_and_r _ _, by omega⟩ | exact z_and_r _ _) (fun h28 => ?_) (fun h28 => ?_)
        · refine x_iinc (lv' := [(0, _), (1, _), (2, _), (3, _)]) dX6_keepIn_38 3 rfl rfl rfl ?_
          refine x_goto (tgt := 2) dX6_keepIn_41 (by decide) ?_
          first
          | (have hz : ¬ z_and (I (p + 7) (j : Int)) (z_shl 1 (6 * w + r)) = 0 := h28
             rw [mapL_same L na j _ (by unfold kpX; rw [if_neg hz])]
             exact ih)
          | (have hz : z_and (I (p + 7) (j : Int)) (z_shl 1 (6 * w + r)) = 0 := h28
             have hu := mapL_up L na j (kpX I p w r)
             rw [show kpX I p w r j (L na (j : Int)) = 0 by unfold kpX; rw [if_pos hz]] at hu
             rw [hu]
             exact ih)
        · refine x_aload_n dX6_keepIn_31 0 rfl rfl ?_
          refine x_getR dX6_keepIn_32 flX6_35 rfl rfl hW.2.2.2.1 ?_
          refine x_iload_n dX6_keepIn_35 3 rfl rfl ?_
          refine x_lconst 0 dX6_keepIn_36 rfl ?_
          refine x_last dX6_keepIn_37 (shW hW.2.2.2.2.2.2.1) (by omega) ?_
          refine x_iinc (lv' := [(0, _), (1, _), (2, _), (3, _)]) dX6_keepIn_38 3 rfl rfl rfl ?_
          refine x_goto (tgt := 2) dX6_keepIn_41 (by decide) ?_
          first
          | (have hz : ¬ z_and (I (p + 7) (j : Int)) (z_shl 1 (6 * w + r)) = 0 := h28
             rw [mapL_same L na j _ (by unfold kpX; rw [if_neg hz])]
             exact ih)
          | (have hz : z_and (I (p + 7) (j : Int)) (z_shl 1 (6 * w + r)) = 0 := h28
             have hu := mapL_up L na j (kpX I p w r)
             rw [show kpX I p w r j (L na (j : Int)) = 0 by unfold kpX; rw [if_pos hz]] at hu
             rw [hu]
             exact ih)
    · refine x_iload_n dX6_keepIn_2 3 rfl rfl ?_
      refine x_aload_n dX6_keepIn_3 0 rfl rfl ?_
      refine x_getR dX6_keepIn_4 flX6_54 rfl rfl hW.2.2.1 ?_
      refine x_getI dX6_keepIn_7 flX6_85 (shP0 hW.2.1) rfl ?_
      rw [hn]
      refine x_ic_ge (tgt := 44) dX6_keepIn_10 (by decide) (by first | omega | exact ⟨z_and_r _ _, by omega⟩ | exact z_and_r _ _) (fun h10 => ?_) (fun h10 => ?_)
      · refine x_vret dX6_keepIn_44 rfl ?_
        rw [← hQ]
        exact ⟨rfl, rfl, rfl, rfl⟩
      · exfalso; omega
  refine x_iconst dX6_keepIn_0 ?_
  refine x_istore_n (lv' := [(0, _), (1, _), (2, _), (3, _)]) dX6_keepIn_1 rfl rfl rfl ?_
  have h0 := loop 0 (by omega)
  rw [mapL_0] at h0
  exact h0
theorem s_X6_mayBe {n t q : Nat} (hW : isW R q na nb nk) (hp : isP R p) (hn : I p 3 = (n : Int)) (hn2 : n ≤ 1728) (ht : t < 31) : Sp G mtX6_mayBe [mr 19, mr p, mi ↑t] shX I L R (qi (pu (mbF I L p t n) I L R)) := by
  refine Sp.of pnX6_mayBe rfl ?_
  show Rn G mtX6_mayBe _ 0 [(0, mr 19), (1, mr p), (2, mi ↑t)] [] shX I L R
  generalize hQ : (qi (pu (mbF I L p t n) I L R)) = Q
  have loop : ∀ j : Nat, j ≤ n → Rn G mtX6_mayBe Q 5 [(0, mr 19), (1, mr p), (2, mi (t : Int)), (3, mi (mbF I L p t j)), (4, mi (j : Int))] [] shX I L R := by
    refine lpn n (fun j hj ih => ?_) ?_
    · have hs : mbF I L p t (j + 1) = if inX L j t then z_or (mbF I L p t j) (I (p + 7) (j : Int)) else mbF I L p t j := rfl
      refine x_iload dX6_mayBe_5 4 rfl ?_
      refine x_aload_n dX6_mayBe_7 1 rfl rfl ?_
      refine x_getI dX6_mayBe_8 flX6_85 (shP0 hp) rfl ?_
      rw [hn]
      refine x_ic_ge (tgt := 40) dX6_mayBe_11 (by decide) (by first | omega | exact z_and_r _ _ | exact z_or_r _ _ | exact z_xor_r _ _) (fun h11 => ?_) (fun h11 => ?_)
      · exfalso; omega
      · refine x_aload_n dX6_mayBe_14 0 rfl rfl ?_
        refine x_iload dX6_mayBe_15 4 rfl ?_
        refine x_iload_n dX6_mayBe_17 2 rfl rfl ?_
        refine x_callVi (as := [_, _]) dX6_mayBe_18 lvX6_138 rfl rfl rfl rfl rfl rfl rfl ⟨rfl, rfl⟩ (s_X6_isIn hW (by omega) ht) (fun z18 I18 L18 R18 hq18 => ?_)
        obtain ⟨rfl, rfl, rfl, rfl⟩ := hq18
        refine y_ifb_eq (tgt := 34) dX6_mayBe_21 (by decide) (fun h21 => ?_) (fun h21 => ?_)
        · refine x_iinc (lv' := [(0, _), (1, _), (2, _), (3, _), (4, _)]) dX6_mayBe_34 4 rfl rfl rfl ?_
          refine x_goto (tgt := 5) dX6_mayBe_37 (by decide) ?_
          first
          | (have hb : inX L j t = true := h21
             rw [hs, if_pos hb] at ih
             exact ih)
          | (have hb : ¬ inX L j t = true := h21
             rw [hs, if_neg hb] at ih
             exact ih)
        · refine x_iload_n dX6_mayBe_24 3 rfl rfl ?_
          refine x_aload_n dX6_mayBe_25 1 rfl rfl ?_
          refine x_getR dX6_mayBe_26 flX6_88 (shP0 hp) rfl hp.2.2.2.2.2.2.2 ?_
          refine x_iload dX6_mayBe_29 4 rfl ?_
          refine x_iald dX6_mayBe_31 (shP7 hp) (by omega) ?_
          refine x_ior dX6_mayBe_32 ?_
          refine x_istore_n (lv' := [(0, _), (1, _), (2, _), (3, _), (4, _)]) dX6_mayBe_33 rfl rfl rfl ?_
          refine x_iinc (lv' := [(0, _), (1, _), (2, _), (3, _), (4, _)]) dX6_mayBe_34 4 rfl rfl rfl ?_
          refine x_goto (tgt := 5) dX6_mayBe_37 (by decide) ?_
          first
          | (have hb : inX L j t = true := h21
             rw [hs, if_pos hb] at ih
             exact ih)
          | (have hb : ¬ inX L j t = true := h21
             rw [hs, if_neg hb] at ih
             exact ih)
    · refine x_iload dX6_mayBe_5 4 rfl ?_
      refine x_aload_n dX6_mayBe_7 1 rfl rfl ?_
      refine x_getI dX6_mayBe_8 flX6_85 (shP0 hp) rfl ?_
      rw [hn]
      refine x_ic_ge (tgt := 40) dX6_mayBe_11 (by decide) (by first | omega | exact z_and_r _ _ | exact z_or_r _ _ | exact z_xor_r _ _) (fun h11 => ?_) (fun h11 => ?_)
      · refine x_iload_n dX6_mayBe_40 3 rfl rfl ?_
        refine x_iret dX6_mayBe_41 rfl ?_
        rw [← hQ]
        exact ⟨_, rfl, rfl, rfl, rfl, rfl⟩
      · exfalso; omega
  refine x_iconst dX6_mayBe_0 ?_
  refine x_istore_n (lv' := [(0, _), (1, _), (2, _), (3, _)]) dX6_mayBe_1 rfl rfl rfl ?_
  refine x_iconst dX6_mayBe_2 ?_
  refine x_istore (lv' := [(0, _), (1, _), (2, _), (3, _), (4, _)]) dX6_mayBe_3 rfl rfl ?_
  exact loop 0 (by omega)
theorem s_X6_mustBe {n t q : Nat} (hW : isW R q na nb nk) (hp : isP R p) (hn : I p 3 = (n : Int)) (hn2 : n ≤ 1728) (ht : t < 31) : Sp G mtX6_mustBe [mr 19, mr p, mi ↑t] shX I L R (qi (pu (muF I L p t n) I L R)) := by
  refine Sp.of pnX6_mustBe rfl ?_
  show Rn G mtX6_mustBe _ 0 [(0, mr 19), (1, mr p), (2, mi ↑t)] [] shX I L R
  generalize hQ : (qi (pu (muF I L p t n) I L R)) = Q
  have loop : ∀ j : Nat, j ≤ n → Rn G mtX6_mustBe Q 5 [(0, mr 19), (1, mr p), (2, mi (t : Int)), (3, mi (muF I L p t j)), (4, mi (j : Int))] [] shX I L R := by
    refine lpn n (fun j hj ih => ?_) ?_
    · have hs : muF I L p t (j + 1) = if inX L j t then z_and (muF I L p t j) (I (p + 7) (j : Int)) else muF I L p t j := rfl
      refine x_iload dX6_mustBe_5 4 rfl ?_
      refine x_aload_n dX6_mustBe_7 1 rfl rfl ?_
      refine x_getI dX6_mustBe_8 flX6_85 (shP0 hp) rfl ?_
      rw [hn]
      refine x_ic_ge (tgt := 40) dX6_mustBe_11 (by decide) (by first | omega | exact z_and_r _ _ | exact z_or_r _ _ | exact z_xor_r _ _) (fun h11 => ?_) (fun h11 => ?_)
      · exfalso; omega
      · refine x_aload_n dX6_mustBe_14 0 rfl rfl ?_
        refine x_iload dX6_mustBe_15 4 rfl ?_
        refine x_iload_n dX6_mustBe_17 2 rfl rfl ?_
        refine x_callVi (as := [_, _]) dX6_mustBe_18 lvX6_138 rfl rfl rfl rfl rfl rfl rfl ⟨rfl, rfl⟩ (s_X6_isIn hW (by omega) ht) (fun z18 I18 L18 R18 hq18 => ?_)
        obtain ⟨rfl, rfl, rfl, rfl⟩ := hq18
        refine y_ifb_eq (tgt := 34) dX6_mustBe_21 (by decide) (fun h21 => ?_) (fun h21 => ?_)
        · refine x_iinc (lv' := [(0, _), (1, _), (2, _), (3, _), (4, _)]) dX6_mustBe_34 4 rfl rfl rfl ?_
          refine x_goto (tgt := 5) dX6_mustBe_37 (by decide) ?_
          first
          | (have hb : inX L j t = true := h21
             rw [hs, if_pos hb] at ih
             exact ih)
          | (have hb : ¬ inX L j t = true := h21
             rw [hs, if_neg hb] at ih
             exact ih)
        · refine x_iload_n dX6_mustBe_24 3 rfl rfl ?_
          refine x_aload_n dX6_mustBe_25 1 rfl rfl ?_
          refine x_getR dX6_mustBe_26 flX6_88 (shP0 hp) rfl hp.2.2.2.2.2.2.2 ?_
          refine x_iload dX6_mustBe_29 4 rfl ?_
          refine x_iald dX6_mustBe_31 (shP7 hp) (by omega) ?_
          refine x_iand dX6_mustBe_32 ?_
          refine x_istore_n (lv' := [(0, _), (1, _), (2, _), (3, _), (4, _)]) dX6_mustBe_33 rfl rfl rfl ?_
          refine x_iinc (lv' := [(0, _), (1, _), (2, _), (3, _), (4, _)]) dX6_mustBe_34 4 rfl rfl rfl ?_
          refine x_goto (tgt := 5) dX6_mustBe_37 (by decide) ?_
          first
          | (have hb : inX L j t = true := h21
             rw [hs, if_pos hb] at ih
             exact ih)
          | (have hb : ¬ inX L j t = true := h21
             rw [hs, if_neg hb] at ih
             exact ih)
    · refine x_iload dX6_mustBe_5 4 rfl ?_
      refine x_aload_n dX6_mustBe_7 1 rfl rfl ?_
      refine x_getI dX6_mustBe_8 flX6_85 (shP0 hp) rfl ?_
      rw [hn]
      refine x_ic_ge (tgt := 40) dX6_mustBe_11 (by decide) (by first | omega | exact z_and_r _ _ | exact z_or_r _ _ | exact z_xor_r _ _) (fun h11 => ?_) (fun h11 => ?_)
      · refine x_iload_n dX6_mustBe_40 3 rfl rfl ?_
        refine x_iret dX6_mustBe_41 rfl ?_
        rw [← hQ]
        exact ⟨_, rfl, rfl, rfl, rfl, rfl⟩
      · exfalso; omega
  refine x_iconst dX6_mustBe_0 ?_
  refine x_istore_n (lv' := [(0, _), (1, _), (2, _), (3, _)]) dX6_mustBe_1 rfl rfl rfl ?_
  refine x_iconst dX6_mustBe_2 ?_
  refine x_istore (lv' := [(0, _), (1, _), (2, _), (3, _), (4, _)]) dX6_mustBe_3 rfl rfl ?_
  exact loop 0 (by omega)
end

/-! THE LAW'S OWN METHODS: house. -/
/-- a house by numbers -/
def HOK (hv : Int → Int) (R D W T : Nat) : Prop := (2 ≤ R ∧ R ≤ 5) ∧ (1 ≤ D ∧ D ≤ 6) ∧ (1 ≤ W ∧ W ≤ 3) ∧ (1 ≤ T ∧ T ≤ 5) ∧ (hv 0 = R ∧ hv 1 = D ∧ hv 2 = W ∧ hv 3 = T ∧ (0 ≤ hv 4 ∧ hv 4 ≤ 255)) ∧ (∀ e : Nat, e < D → 0 ≤ hv (8 + 2 * (e : Int)) ∧ hv (8 + 2 * (e : Int)) < hv (9 + 2 * (e : Int)) ∧ hv (9 + 2 * (e : Int)) < R) ∧ ∀ w : Nat, w < W → (hv (30 + (w : Int)) = 1 ∨ hv (30 + (w : Int)) = 2) ∧ hv (33 + (w : Int)) = z_shl 1 (R : Int) - 1
def bt_ (hv : Int → Int) (e : Nat) : Int := z_and (z_shr (hv 4) (e : Int)) 1
def dd_ (hv : Int → Int) (e : Nat) : Int × Int × Int := (hv (8 + 2 * (e : Int)), hv (9 + 2 * (e : Int)), bt_ hv e)
def pw_ (hv : Int → Int) (w : Nat) : Int := hv (30 + (w : Int))
/-- a memory that holds it -/
def HouM (M : MI) (hv : Int → Int) (R D W T : Nat) : Prop := (M 0 11 = R ∧ M 0 12 = D ∧ M 0 13 = W ∧ M 0 14 = T ∧ M 0 25 = 0) ∧ (∀ e : Nat, e < D → M 7 (3 * (e : Int)) = hv (8 + 2 * (e : Int)) ∧ M 7 (3 * (e : Int) + 1) = hv (9 + 2 * (e : Int)) ∧ M 7 (3 * (e : Int) + 2) = bt_ hv e) ∧ ∀ w : Nat, w < W → M 8 (2 * (w : Int)) = hv (30 + (w : Int)) ∧ M 8 (2 * (w : Int) + 1) = z_shl 1 (R : Int) - 1
def L1_ (hv : Int → Int) (R k : Nat) : List Int := [114, 48 + (R : Int)] ++ ((List.range k).map (dd_ hv)).flatMap dtx
def L2_ (hv : Int → Int) (R D T k : Nat) : List Int := ((L1_ hv R D ++ [109]) ++ [48 + (T : Int)]) ++ ((List.range k).map (pw_ hv)).flatMap wtx
theorem L1_s (hv : Int → Int) (R k : Nat) : L1_ hv R (k + 1) = (((L1_ hv R k ++ [if bt_ hv k = 1 then 68 else 100]) ++ [48 + hv (8 + 2 * (k : Int))]) ++ [45]) ++ [48 + hv (9 + 2 * (k : Int))] := by
  unfold L1_
  rw [List.range_succ, List.map_append, List.flatMap_append]
  simp [dtx, dd_]
theorem L2_s (hv : Int → Int) (R D T k : Nat) : L2_ hv R D T (k + 1) = (((L2_ hv R D T k ++ [119]) ++ [48 + hv (30 + (k : Int))]) ++ [58]) ++ [42] := by
  unfold L2_
  rw [List.range_succ, List.map_append, List.flatMap_append]
  simp [wtx, pw_]
theorem L1_n (hv : Int → Int) (R : Nat) : ∀ k, (L1_ hv R k).length = 2 + 4 * k
  | 0 => rfl
  | k + 1 => by rw [L1_s]; simp only [List.length_append, L1_n hv R k]; simp; omega
theorem L2_n (hv : Int → Int) (R D T : Nat) : ∀ k, (L2_ hv R D T k).length = 4 + 4 * D + 4 * k
  | 0 => by show ((L1_ hv R D ++ [109]) ++ [48 + (T : Int)] ++ []).length = _; simp [L1_n]; omega
  | k + 1 => by rw [L2_s]; simp only [List.length_append, L2_n hv R D T k]; simp; omega
theorem L2_h (hv : Int → Int) (R D W T : Nat) : L2_ hv R D T W = htx (R : Int) (T : Int) ((List.range D).map (dd_ hv)) ((List.range W).map (pw_ hv)) := by
  unfold L2_ L1_ htx
  simp
theorem bt_01 (hv : Int → Int) (e : Nat) (he : e < 32) : bt_ hv e = 0 ∨ bt_ hv e = 1 := by
  unfold bt_
  rw [z_bit (by omega)]
  unfold b01
  split
  · exact Or.inr rfl
  · exact Or.inl rfl
theorem shl_r5 : ∀ R : Nat, R < 6 → (1 ≤ z_shl 1 (R : Int) ∧ z_shl 1 (R : Int) ≤ 32) := by decide
theorem TS.cg {B B' : MM} {M0 Nn : MI} {l : List Int} (h : TS B M0 Nn l) (e : B' = B) : TS B' M0 Nn l := by rw [e]; exact h
/-- the house that is read -/
theorem hou_rd {M : MI} {hv : Int → Int} {R D W T : Nat} (ok : HOK hv R D W T) (tx : TX M (L2_ hv R D T W)) : houF (BY M 3) 80 = (-9, (R : Int), (80, (List.range D).map (dd_ hv), ((List.range W).map (pw_ hv)).map (fun v => (v, z_shl 1 (R : Int) - 1)), (T : Int))) := by
  obtain ⟨hR, hD, hW, hT, -, gd, gw⟩ := ok
  rw [L2_h] at tx
  obtain ⟨b1, b2⟩ := TX_B tx
  refine hou_txt (by omega) (by omega) (fun d hd => ?_) (by simp; omega) (fun v hv => ?_) (by simp; omega) b1 (by rw [b2]; decide)
  · obtain ⟨e, he, rfl⟩ := List.mem_map.mp hd
    have he := List.mem_range.mp he
    obtain ⟨a1, a2, a3⟩ := gd e he
    exact ⟨a1, a2, a3, bt_01 hv e (by omega)⟩
  · obtain ⟨w, hw, rfl⟩ := List.mem_map.mp hv
    exact (gw w (List.mem_range.mp hw)).1
theorem hou_M {M : MI} {hv : Int → Int} {R D W T : Nat} : HouM (hsM M (R : Int) ((List.range D).map (dd_ hv)) (((List.range W).map (pw_ hv)).map (fun v => (v, z_shl 1 (R : Int) - 1))) (T : Int)) hv R D W T := by
  have i := hsM_i (M := M) (R := (R : Int)) (σ := (80, (List.range D).map (dd_ hv), ((List.range W).map (pw_ hv)).map (fun v => (v, z_shl 1 (R : Int) - 1)), (T : Int)))
  refine ⟨⟨rfl, ?_, ?_, rfl, rfl⟩, fun e he => ?_, fun w hw => ?_⟩
  · show ((((List.range D).map (dd_ hv)).length : Nat) : Int) = _
    simp
  · show (((((List.range W).map (pw_ hv)).map (fun v => (v, z_shl 1 (R : Int) - 1))).length : Nat) : Int) = _
    simp
  · have q : ((List.range D).map (dd_ hv))[e]? = some (dd_ hv e) := by simp [he]
    have f : ∀ k : Int, 0 ≤ k → k < 3 → hsM M (R : Int) ((List.range D).map (dd_ hv)) (((List.range W).map (pw_ hv)).map (fun v => (v, z_shl 1 (R : Int) - 1))) (T : Int) 7 (3 * (e : Int) + k) = if k = 0 then (dd_ hv e).1 else if k = 1 then (dd_ hv e).2.1 else (dd_ hv e).2.2 := fun k k0 k3 => by
      show (match ((List.range D).map (dd_ hv))[((3 * (e : Int) + k) / 3).toNat]? with
        | some d => if (3 * (e : Int) + k) % 3 = 0 then d.1 else if (3 * (e : Int) + k) % 3 = 1 then d.2.1 else d.2.2
        | none => 0) = _
      rw [show ((3 * (e : Int) + k) / 3).toNat = e by omega, q]
      simp only
      rw [show (3 * (e : Int) + k) % 3 = k by omega]
    have a0 := f 0 (by omega) (by omega)
    have a1 := f 1 (by omega) (by omega)
    have a2 := f 2 (by omega) (by omega)
    rw [Int.add_zero] at a0
    exact ⟨a0, a1, a2⟩
  · have q : (((List.range W).map (pw_ hv)).map (fun v => (v, z_shl 1 (R : Int) - 1)))[w]? = some (pw_ hv w, z_shl 1 (R : Int) - 1) := by simp [hw]
    have f : ∀ k : Int, 0 ≤ k → k < 2 → hsM M (R : Int) ((List.range D).map (dd_ hv)) (((List.range W).map (pw_ hv)).map (fun v => (v, z_shl 1 (R : Int) - 1))) (T : Int) 8 (2 * (w : Int) + k) = if k = 0 then pw_ hv w else z_shl 1 (R : Int) - 1 := fun k k0 k3 => by
      show (match (((List.range W).map (pw_ hv)).map (fun v => (v, z_shl 1 (R : Int) - 1)))[((2 * (w : Int) + k) / 2).toNat]? with
        | some q => if (2 * (w : Int) + k) % 2 = 0 then q.1 else q.2
        | none => 0) = _
      rw [show ((2 * (w : Int) + k) / 2).toNat = w by omega, q]
      simp only
      rw [show (2 * (w : Int) + k) % 2 = k by omega]
    have a0 := f 0 (by omega) (by omega)
    have a1 := f 1 (by omega) (by omega)
    rw [Int.add_zero] at a0
    exact ⟨a0, a1⟩
/-- two blocks apart -/
def ap2 (r h : Nat) : Prop := r + 69 ≤ h ∨ h + 1 ≤ r
theorem n_ap2 {r h n : Nat} (q : ap2 r h) : n_ap [(r, shX), (h, [.inr (0, n)])] := by
  have l1 : shX.length = 69 := rfl
  have l2 : ([.inr (0, n)] : MS).length = 1 := rfl
  intro i j p s hi hj hn k l hk hl
  unfold ap2 at q
  rcases i with _ | _ | i
  · rcases j with _ | _ | j
    · exact absurd rfl hn
    · cases hi; cases hj
      simp only [l1, l2] at hk hl ⊢
      omega
    · cases hj
  · rcases j with _ | _ | j
    · cases hi; cases hj
      simp only [l1, l2] at hk hl ⊢
      omega
    · exact absurd rfl hn
    · cases hj
  · cases hi

theorem TS.ex {B : MM} {M0 Nn : MI} {l l' : List Int} (h : TS B M0 Nn l) (e : l' = l) : TS B M0 Nn l' := by rw [e]; exact h
theorem L20 (hv : Int → Int) (R D T : Nat) : L2_ hv R D T 0 = (L1_ hv R D ++ [109]) ++ [48 + (T : Int)] := List.append_nil _

theorem c_house {G : GT} {r hh : Nat} {N0 : NM} {M0 Nn : MI} {R D W T : Nat} (hap2 : ap2 r hh) (hC : CRn (N0 0) M0 Nn) (ok : HOK ((N0 1).1 0) R D W T) : n_Spec G mtL_house none [mr r, mr hh] [(r, shX), (hh, [.inr (0, 64)])] N0 (fun v N => v = some (mi 1) ∧ N 1 = N0 1 ∧ ∃ M, CRn (N 0) M Nn ∧ HouM M ((N0 1).1 0) R D W T) := by
  refine n_Spec.of pnL_house rfl trivial ?_
  show n_Run G mtL_house _ _ none [(r, shX), (hh, [.inr (0, 64)])] 0 0 0 [(0, mr r), (1, mr hh)] [] N0
  have hap := n_ap2 (n := 64) hap2
  have ok' := ok
  obtain ⟨hR, hD, hW, hT, ⟨g0, g1, g2, g3, g4⟩, gd, gw⟩ := ok'
  generalize hQ : (fun (v : Option MV) (N : NM) => v = some (mi 1) ∧ N 1 = N0 1 ∧ ∃ M, CRn (N 0) M Nn ∧ HouM M ((N0 1).1 0) R D W T) = Q
  have v0 : ∀ {K : NM}, K 1 = N0 1 → (K 1).1 0 0 = (R : Int) := fun e => by rw [e]; exact g0
  have v1 : ∀ {K : NM}, K 1 = N0 1 → (K 1).1 0 1 = (D : Int) := fun e => by rw [e]; exact g1
  have v2 : ∀ {K : NM}, K 1 = N0 1 → (K 1).1 0 2 = (W : Int) := fun e => by rw [e]; exact g2
  have v3 : ∀ {K : NM}, K 1 = N0 1 → (K 1).1 0 3 = (T : Int) := fun e => by rw [e]; exact g3
  have vx : ∀ {K : NM}, K 1 = N0 1 → ∀ x, (K 1).1 0 x = (N0 1).1 0 x := fun e x => by rw [e]
  have v4 : ∀ {K : NM}, K 1 = N0 1 → (K 1).1 0 4 = (N0 1).1 0 4 := fun e => by rw [e]
  have hs := shl_r5 R (by omega)
  have at253 : ∀ N : NM, TS (N 0) M0 Nn (L2_ ((N0 1).1 0) R D T W) → N 1 = N0 1 → n_Run G mtL_house mtL_house.rm (n_Zc G mtL_house [(r, shX), (hh, [.inr (0, 64)])] Q) none [(r, shX), (hh, [.inr (0, 64)])] 0 0 253 [(0, mr r), (1, mr hh), (2, mi ((L2_ ((N0 1).1 0) R D T W).length : Int)), (3, mi (W : Int))] [] N := by
    intro N tN kN
    have hlen := L2_n ((N0 1).1 0) R D T W
    generalize hl : (L2_ ((N0 1).1 0) R D T W).length = ln at *
    obtain ⟨M, ⟨h, h', co, cc⟩, tx, ot⟩ := tN
    have hr := hou_rd ok tx
    have e5 : (M 5 3).toNat = 80 := by rw [tx.1]; rfl
    have ef : s_fault 3 0 M = (-9, M) := by
      unfold s_fault
      rw [if_neg (by omega), if_neg (by rw [tx.1]; omega), if_neg (by omega), e5, hr]
    have okh : okH 3 M := ⟨by omega, by rw [tx.1]; omega, by rw [e5, hr]⟩
    refine n_iload_n dL_house_253 2 rfl rfl ?_
    refine n_if_le (tgt := 283) dL_house_254 (by decide) (by omega) (fun h254 => ?_) (fun h254 => ?_)
    · exfalso; omega
    · refine n_aload_n dL_house_257 0 rfl rfl ?_
      refine n_iconst dL_house_258 ?_
      refine n_iconst dL_house_259 ?_
      refine n_callVi (i := 0) (as := [_, _]) dL_house_260 lvL_30 rfl rfl ⟨rfl, rfl⟩ hap rfl (s_X7_fault co cc (by omega) (by omega)) (fun _ _ => rfl) rfl rfl rfl ⟨Nat.zero_le _, Nat.zero_le _⟩ (fun z260 I260 L260 R260 hq260 => ?_)
      obtain ⟨z260e, co260, cc260⟩ := hq260
      rw [ef] at z260e co260 cc260
      subst z260e
      have kN260 : n_up N 0 (I260, L260, R260) 1 = N0 1 := kN
      refine n_bipush dL_house_263 (by decide) ?_
      refine n_ic_ne (tgt := 283) dL_house_265 (by decide) (by omega) (fun h265 => ?_) (fun h265 => ?_)
      · exfalso; omega
      · refine n_aload_n dL_house_268 0 rfl rfl ?_
        refine n_iconst dL_house_269 ?_
        refine n_callVi (i := 0) (as := [_]) dL_house_270 lvL_34 rfl rfl ⟨rfl, rfl⟩ hap rfl (s_X7_house co260 cc260 (by omega)) (fun _ _ => rfl) rfl rfl rfl ⟨Nat.zero_le _, Nat.zero_le _⟩ (fun z270 I270 L270 R270 hq270 => ?_)
        obtain ⟨hq1, -⟩ := hq270
        obtain ⟨z270e, hq2⟩ := hq1 okh
        rw [e5, hr] at z270e hq2
        have z270e : z270 = (D : Int) := by rw [z270e]; simp
        subst z270e
        have kN270 : n_up (n_up N 0 (I260, L260, R260)) 0 (I270, L270, R270) 1 = N0 1 := kN260
        refine n_aload_n dL_house_273 1 rfl rfl ?_
        refine n_iconst dL_house_274 ?_
        refine n_ialdv (i := 1) (n := 64) dL_house_275 rfl (by omega) (v1 kN270) ?_
        refine n_ic_ne (tgt := 283) dL_house_276 (by decide) (by omega) (fun h276 => ?_) (fun h276 => ?_)
        · exfalso; omega
        · refine n_iconst dL_house_279 ?_
          refine n_goto (tgt := 284) dL_house_280 (by decide) ?_
          refine n_zret dL_house_284 rfl (by omega) ?_
          rw [← hQ]
          refine ⟨rfl, kN270, _, ⟨h', h, hq2 _ (hsM_i (σ := (80, _, _, _)) (by simp; omega) (by simp; omega))⟩, hou_M⟩
  have lp2 : ∀ k : Nat, k ≤ W → ∀ N : NM, TS (N 0) M0 Nn (L2_ ((N0 1).1 0) R D T k) → N 1 = N0 1 → n_Run G mtL_house mtL_house.rm (n_Zc G mtL_house [(r, shX), (hh, [.inr (0, 64)])] Q) none [(r, shX), (hh, [.inr (0, 64)])] 0 0 134 [(0, mr r), (1, mr hh), (2, mi ((L2_ ((N0 1).1 0) R D T k).length : Int)), (3, mi (k : Int))] [] N := by
    refine lpn W (fun k hk ih => ?_) ?_
    · intro N tN kN
      obtain ⟨hgw1, hgw2⟩ := gw k hk
      refine n_iload_n dL_house_134 3 rfl rfl ?_
      refine n_aload_n dL_house_135 1 rfl rfl ?_
      refine n_iconst dL_house_136 ?_
      refine n_ialdv (i := 1) (n := 64) dL_house_137 rfl (by omega) (v2 kN) ?_
      refine n_ic_ge (tgt := 253) dL_house_138 (by decide) (by omega) (fun h138 => ?_) (fun h138 => ?_)
      · exfalso; omega
      · refine n_aload_n dL_house_141 0 rfl rfl ?_
        refine n_iconst dL_house_142 ?_
        refine n_aload_n dL_house_143 0 rfl rfl ?_
        refine n_iconst dL_house_144 ?_
        refine n_aload_n dL_house_145 0 rfl rfl ?_
        refine n_iconst dL_house_146 ?_
        refine n_iload_n dL_house_147 2 rfl rfl ?_
        refine n_bipush dL_house_148 (by decide) ?_
        refine n_callS (ix := fun j => j) (as := [_, _, _, _]) dL_house_150 lvL_14 rfl ⟨rfl, rfl⟩ hap (fun j p hj => by rcases j with _ | _ | _ | j <;> first | exact hj | cases hj) (Or.inl rfl) (c_put (M0 := M0) (Nn := Nn) rfl tN (by first | (rw [L1_n]; omega) | (rw [L2_n]; omega) | (simp [L1_n, L2_n]; done) | (simp [L1_n, L2_n]; omega)) (by omega)) (fun i j hi hj e => by rcases i with _ | _ | _ | i <;> rcases j with _ | _ | _ | j <;> first | rfl | exact absurd e (by decide) | (exfalso; simp at hi; done) | (exfalso; simp at hj; done) | (exfalso; simp at hi; omega) | (exfalso; simp at hj; omega)) rfl rfl rfl ⟨Nat.zero_le _, Nat.zero_le _⟩ (fun v150 C150 hq150 N150 hi150 ho150 => ?_)
        obtain ⟨rfl, tC150⟩ := hq150
        have tN150 := tC150.cg (hi150 0 (by simp))
        have kN150 : N150 1 = N0 1 := (ho150 1 (fun j hj => by simp at hj; omega)).trans kN
        refine n_bipush dL_house_153 (by decide) ?_
        refine n_aload_n dL_house_155 1 rfl rfl ?_
        refine n_bipush dL_house_156 (by decide) ?_
        refine n_iload_n dL_house_158 3 rfl rfl ?_
        refine n_iadd dL_house_159 ?_
        refine n_ialdv (i := 1) (n := 64) dL_house_160 rfl (by omega) (vx kN150 _) ?_
        refine n_iadd dL_house_161 ?_
        refine n_callS (ix := fun j => j) (as := [_, _, _, _]) dL_house_162 lvL_14 rfl ⟨rfl, rfl⟩ hap (fun j p hj => by rcases j with _ | _ | _ | j <;> first | exact hj | cases hj) (Or.inl rfl) (c_put (M0 := M0) (Nn := Nn) rfl tN150 (by first | (rw [L1_n]; omega) | (rw [L2_n]; omega) | (simp [L1_n, L2_n]; done) | (simp [L1_n, L2_n]; omega)) (by omega)) (fun i j hi hj e => by rcases i with _ | _ | _ | i <;> rcases j with _ | _ | _ | j <;> first | rfl | exact absurd e (by decide) | (exfalso; simp at hi; done) | (exfalso; simp at hj; done) | (exfalso; simp at hi; omega) | (exfalso; simp at hj; omega)) rfl rfl rfl ⟨Nat.zero_le _, Nat.zero_le _⟩ (fun v162 C162 hq162 N162 hi162 ho162 => ?_)
        obtain ⟨rfl, tC162⟩ := hq162
        have tN162 := tC162.cg (hi162 0 (by simp))
        have kN162 : N162 1 = N0 1 := (ho162 1 (fun j hj => by simp at hj; omega)).trans kN150
        refine n_bipush dL_house_165 (by decide) ?_
        refine n_callS (ix := fun j => j) (as := [_, _, _, _]) dL_house_167 lvL_14 rfl ⟨rfl, rfl⟩ hap (fun j p hj => by rcases j with _ | _ | _ | j <;> first | exact hj | cases hj) (Or.inl rfl) (c_put (M0 := M0) (Nn := Nn) rfl tN162 (by first | (rw [L1_n]; omega) | (rw [L2_n]; omega) | (simp [L1_n, L2_n]; done) | (simp [L1_n, L2_n]; omega)) (by omega)) (fun i j hi hj e => by rcases i with _ | _ | _ | i <;> rcases j with _ | _ | _ | j <;> first | rfl | exact absurd e (by decide) | (exfalso; simp at hi; done) | (exfalso; simp at hj; done) | (exfalso; simp at hi; omega) | (exfalso; simp at hj; omega)) rfl rfl rfl ⟨Nat.zero_le _, Nat.zero_le _⟩ (fun v167 C167 hq167 N167 hi167 ho167 => ?_)
        obtain ⟨rfl, tC167⟩ := hq167
        have tN167 := tC167.cg (hi167 0 (by simp))
        have kN167 : N167 1 = N0 1 := (ho167 1 (fun j hj => by simp at hj; omega)).trans kN162
        refine n_istore_n (lv' := [(0, _), (1, _), (2, _), (3, _)]) dL_house_170 rfl rfl rfl ?_
        refine n_aload_n dL_house_171 1 rfl rfl ?_
        refine n_bipush dL_house_172 (by decide) ?_
        refine n_iload_n dL_house_174 3 rfl rfl ?_
        refine n_iadd dL_house_175 ?_
        refine n_ialdv (i := 1) (n := 64) dL_house_176 rfl (by omega) ((vx kN167 _).trans hgw2) ?_
        refine n_iconst dL_house_177 ?_
        refine n_aload_n dL_house_178 1 rfl rfl ?_
        refine n_iconst dL_house_179 ?_
        refine n_ialdv (i := 1) (n := 64) dL_house_180 rfl (by omega) (v0 kN167) ?_
        refine n_ishl dL_house_181 ?_
        refine n_iconst dL_house_182 ?_
        refine n_isub dL_house_183 ?_
        refine n_ic_ne (tgt := 199) dL_house_184 (by decide) (by omega) (fun h184 => ?_) (fun h184 => ?_)
        · exact absurd rfl h184
        · refine n_aload_n dL_house_187 0 rfl rfl ?_
          refine n_iconst dL_house_188 ?_
          refine n_iload_n dL_house_189 2 rfl rfl ?_
          refine n_bipush dL_house_190 (by decide) ?_
          refine n_callS (ix := fun j => j) (as := [_, _, _, _]) dL_house_192 lvL_14 rfl ⟨rfl, rfl⟩ hap (fun j p hj => by rcases j with _ | _ | _ | j <;> first | exact hj | cases hj) (Or.inl rfl) (c_put (M0 := M0) (Nn := Nn) rfl tN167 (by first | (rw [L1_n]; omega) | (rw [L2_n]; omega) | (simp [L1_n, L2_n]; done) | (simp [L1_n, L2_n]; omega)) (by omega)) (fun i j hi hj e => by rcases i with _ | _ | _ | i <;> rcases j with _ | _ | _ | j <;> first | rfl | exact absurd e (by decide) | (exfalso; simp at hi; done) | (exfalso; simp at hj; done) | (exfalso; simp at hi; omega) | (exfalso; simp at hj; omega)) rfl rfl rfl ⟨Nat.zero_le _, Nat.zero_le _⟩ (fun v192 C192 hq192 N192 hi192 ho192 => ?_)
          obtain ⟨rfl, tC192⟩ := hq192
          have tN192 := tC192.cg (hi192 0 (by simp))
          have kN192 : N192 1 = N0 1 := (ho192 1 (fun j hj => by simp at hj; omega)).trans kN167
          refine n_istore_n (lv' := [(0, _), (1, _), (2, _), (3, _)]) dL_house_195 rfl rfl rfl ?_
          refine n_goto (tgt := 247) dL_house_196 (by decide) ?_
          refine n_iinc (lv' := [(0, _), (1, _), (2, _), (3, _)]) dL_house_247 3 rfl rfl rfl ?_
          refine n_goto (tgt := 134) dL_house_250 (by decide) ?_
          have e := ih _ (tN192.ex (L2_s _ R D T k)) kN192
          rw [L2_s] at e
          exact e
    · intro N tN kN
      refine n_iload_n dL_house_134 3 rfl rfl ?_
      refine n_aload_n dL_house_135 1 rfl rfl ?_
      refine n_iconst dL_house_136 ?_
      refine n_ialdv (i := 1) (n := 64) dL_house_137 rfl (by omega) (v2 kN) ?_
      refine n_ic_ge (tgt := 253) dL_house_138 (by decide) (by omega) (fun h138 => ?_) (fun h138 => ?_)
      · exact at253 _ tN kN
      · exfalso; omega
  have lp1 : ∀ k : Nat, k ≤ D → ∀ N : NM, TS (N 0) M0 Nn (L1_ ((N0 1).1 0) R k) → N 1 = N0 1 → n_Run G mtL_house mtL_house.rm (n_Zc G mtL_house [(r, shX), (hh, [.inr (0, 64)])] Q) none [(r, shX), (hh, [.inr (0, 64)])] 0 0 36 [(0, mr r), (1, mr hh), (2, mi ((L1_ ((N0 1).1 0) R k).length : Int)), (3, mi (k : Int))] [] N := by
    refine lpn D (fun k hk ih => ?_) ?_
    · intro N tN kN
      obtain ⟨hg1, hg2, hg3⟩ := gd k hk
      have at64 : ∀ x : Int, x = (if bt_ ((N0 1).1 0) k = 1 then 68 else 100) → n_Run G mtL_house mtL_house.rm (n_Zc G mtL_house [(r, shX), (hh, [.inr (0, 64)])] Q) none [(r, shX), (hh, [.inr (0, 64)])] 0 0 64 [(0, mr r), (1, mr hh), (2, mi ((L1_ ((N0 1).1 0) R k).length : Int)), (3, mi (k : Int))] [mi x, mi ((L1_ ((N0 1).1 0) R k).length : Int), mi 3, mr r] N := by
        intro x hx
        have hx2 : x = 68 ∨ x = 100 := by rw [hx]; split <;> simp
        refine n_callS (ix := fun j => j) (as := [_, _, _, _]) dL_house_64 lvL_14 rfl ⟨rfl, rfl⟩ hap (fun j p hj => by rcases j with _ | _ | _ | j <;> first | exact hj | cases hj) (Or.inl rfl) (c_put (M0 := M0) (Nn := Nn) rfl tN (by first | (rw [L1_n]; omega) | (rw [L2_n]; omega) | (simp [L1_n, L2_n]; done) | (simp [L1_n, L2_n]; omega)) (by omega)) (fun i j hi hj e => by rcases i with _ | _ | _ | i <;> rcases j with _ | _ | _ | j <;> first | rfl | exact absurd e (by decide) | (exfalso; simp at hi; done) | (exfalso; simp at hj; done) | (exfalso; simp at hi; omega) | (exfalso; simp at hj; omega)) rfl rfl rfl ⟨Nat.zero_le _, Nat.zero_le _⟩ (fun v64 C64 hq64 N64 hi64 ho64 => ?_)
        obtain ⟨rfl, tC64⟩ := hq64
        have tN64 := tC64.cg (hi64 0 (by simp))
        have kN64 : N64 1 = N0 1 := (ho64 1 (fun j hj => by simp at hj; omega)).trans kN
        refine n_istore_n (lv' := [(0, _), (1, _), (2, _), (3, _)]) dL_house_67 rfl rfl rfl ?_
        refine n_aload_n dL_house_68 0 rfl rfl ?_
        refine n_iconst dL_house_69 ?_
        refine n_aload_n dL_house_70 0 rfl rfl ?_
        refine n_iconst dL_house_71 ?_
        refine n_aload_n dL_house_72 0 rfl rfl ?_
        refine n_iconst dL_house_73 ?_
        refine n_iload_n dL_house_74 2 rfl rfl ?_
        refine n_bipush dL_house_75 (by decide) ?_
        refine n_aload_n dL_house_77 1 rfl rfl ?_
        refine n_bipush dL_house_78 (by decide) ?_
        refine n_iconst dL_house_80 ?_
        refine n_iload_n dL_house_81 3 rfl rfl ?_
        refine n_imul dL_house_82 ?_
        refine n_iadd dL_house_83 ?_
        refine n_ialdv (i := 1) (n := 64) dL_house_84 rfl (by omega) (vx kN64 _) ?_
        refine n_iadd dL_house_85 ?_
        refine n_callS (ix := fun j => j) (as := [_, _, _, _]) dL_house_86 lvL_14 rfl ⟨rfl, rfl⟩ hap (fun j p hj => by rcases j with _ | _ | _ | j <;> first | exact hj | cases hj) (Or.inl rfl) (c_put (M0 := M0) (Nn := Nn) rfl tN64 (by first | (rw [L1_n]; omega) | (rw [L2_n]; omega) | (simp [L1_n, L2_n]; done) | (simp [L1_n, L2_n]; omega)) (by omega)) (fun i j hi hj e => by rcases i with _ | _ | _ | i <;> rcases j with _ | _ | _ | j <;> first | rfl | exact absurd e (by decide) | (exfalso; simp at hi; done) | (exfalso; simp at hj; done) | (exfalso; simp at hi; omega) | (exfalso; simp at hj; omega)) rfl rfl rfl ⟨Nat.zero_le _, Nat.zero_le _⟩ (fun v86 C86 hq86 N86 hi86 ho86 => ?_)
        obtain ⟨rfl, tC86⟩ := hq86
        have tN86 := tC86.cg (hi86 0 (by simp))
        have kN86 : N86 1 = N0 1 := (ho86 1 (fun j hj => by simp at hj; omega)).trans kN64
        refine n_bipush dL_house_89 (by decide) ?_
        refine n_callS (ix := fun j => j) (as := [_, _, _, _]) dL_house_91 lvL_14 rfl ⟨rfl, rfl⟩ hap (fun j p hj => by rcases j with _ | _ | _ | j <;> first | exact hj | cases hj) (Or.inl rfl) (c_put (M0 := M0) (Nn := Nn) rfl tN86 (by first | (rw [L1_n]; omega) | (rw [L2_n]; omega) | (simp [L1_n, L2_n]; done) | (simp [L1_n, L2_n]; omega)) (by omega)) (fun i j hi hj e => by rcases i with _ | _ | _ | i <;> rcases j with _ | _ | _ | j <;> first | rfl | exact absurd e (by decide) | (exfalso; simp at hi; done) | (exfalso; simp at hj; done) | (exfalso; simp at hi; omega) | (exfalso; simp at hj; omega)) rfl rfl rfl ⟨Nat.zero_le _, Nat.zero_le _⟩ (fun v91 C91 hq91 N91 hi91 ho91 => ?_)
        obtain ⟨rfl, tC91⟩ := hq91
        have tN91 := tC91.cg (hi91 0 (by simp))
        have kN91 : N91 1 = N0 1 := (ho91 1 (fun j hj => by simp at hj; omega)).trans kN86
        refine n_bipush dL_house_94 (by decide) ?_
        refine n_aload_n dL_house_96 1 rfl rfl ?_
        refine n_bipush dL_house_97 (by decide) ?_
        refine n_iconst dL_house_99 ?_
        refine n_iload_n dL_house_100 3 rfl rfl ?_
        refine n_imul dL_house_101 ?_
        refine n_iadd dL_house_102 ?_
        refine n_ialdv (i := 1) (n := 64) dL_house_103 rfl (by omega) (vx kN91 _) ?_
        refine n_iadd dL_house_104 ?_
        refine n_callS (ix := fun j => j) (as := [_, _, _, _]) dL_house_105 lvL_14 rfl ⟨rfl, rfl⟩ hap (fun j p hj => by rcases j with _ | _ | _ | j <;> first | exact hj | cases hj) (Or.inl rfl) (c_put (M0 := M0) (Nn := Nn) rfl tN91 (by first | (rw [L1_n]; omega) | (rw [L2_n]; omega) | (simp [L1_n, L2_n]; done) | (simp [L1_n, L2_n]; omega)) (by omega)) (fun i j hi hj e => by rcases i with _ | _ | _ | i <;> rcases j with _ | _ | _ | j <;> first | rfl | exact absurd e (by decide) | (exfalso; simp at hi; done) | (exfalso; simp at hj; done) | (exfalso; simp at hi; omega) | (exfalso; simp at hj; omega)) rfl rfl rfl ⟨Nat.zero_le _, Nat.zero_le _⟩ (fun v105 C105 hq105 N105 hi105 ho105 => ?_)
        obtain ⟨rfl, tC105⟩ := hq105
        have tN105 := tC105.cg (hi105 0 (by simp))
        have kN105 : N105 1 = N0 1 := (ho105 1 (fun j hj => by simp at hj; omega)).trans kN91
        refine n_istore_n (lv' := [(0, _), (1, _), (2, _), (3, _)]) dL_house_108 rfl rfl rfl ?_
        refine n_iinc (lv' := [(0, _), (1, _), (2, _), (3, _)]) dL_house_109 3 rfl rfl rfl ?_
        refine n_goto (tgt := 36) dL_house_112 (by decide) ?_
        have e1 := L1_s ((N0 1).1 0) R k
        rw [← hx] at e1
        have e := ih _ (tN105.ex e1) kN105
        rw [e1] at e
        exact e
      refine n_iload_n dL_house_36 3 rfl rfl ?_
      refine n_aload_n dL_house_37 1 rfl rfl ?_
      refine n_iconst dL_house_38 ?_
      refine n_ialdv (i := 1) (n := 64) dL_house_39 rfl (by omega) (v1 kN) ?_
      refine n_ic_ge (tgt := 115) dL_house_40 (by decide) (by omega) (fun h40 => ?_) (fun h40 => ?_)
      · exfalso; omega
      · refine n_aload_n dL_house_43 0 rfl rfl ?_
        refine n_iconst dL_house_44 ?_
        refine n_iload_n dL_house_45 2 rfl rfl ?_
        refine n_aload_n dL_house_46 1 rfl rfl ?_
        refine n_iconst dL_house_47 ?_
        refine n_ialdv (i := 1) (n := 64) dL_house_48 rfl (by omega) (v4 kN) ?_
        refine n_iload_n dL_house_49 3 rfl rfl ?_
        refine n_ishr dL_house_50 ?_
        refine n_iconst dL_house_51 ?_
        refine n_iand dL_house_52 ?_
        refine n_iconst dL_house_53 ?_
        refine n_ic_ne (tgt := 62) dL_house_54 (by decide) (by exact ⟨z_and_r _ _, by omega⟩) (fun h54 => ?_) (fun h54 => ?_)
        · refine n_bipush dL_house_62 (by decide) ?_
          first
          | exact at64 _ (if_pos h54).symm
          | exact at64 _ (if_neg h54).symm
        · refine n_bipush dL_house_57 (by decide) ?_
          refine n_goto (tgt := 64) dL_house_59 (by decide) ?_
          first
          | exact at64 _ (if_pos h54).symm
          | exact at64 _ (if_neg h54).symm
    · intro N tN kN
      refine n_iload_n dL_house_36 3 rfl rfl ?_
      refine n_aload_n dL_house_37 1 rfl rfl ?_
      refine n_iconst dL_house_38 ?_
      refine n_ialdv (i := 1) (n := 64) dL_house_39 rfl (by omega) (v1 kN) ?_
      refine n_ic_ge (tgt := 115) dL_house_40 (by decide) (by omega) (fun h40 => ?_) (fun h40 => ?_)
      · refine n_aload_n dL_house_115 0 rfl rfl ?_
        refine n_iconst dL_house_116 ?_
        refine n_aload_n dL_house_117 0 rfl rfl ?_
        refine n_iconst dL_house_118 ?_
        refine n_iload_n dL_house_119 2 rfl rfl ?_
        refine n_bipush dL_house_120 (by decide) ?_
        refine n_callS (ix := fun j => j) (as := [_, _, _, _]) dL_house_122 lvL_14 rfl ⟨rfl, rfl⟩ hap (fun j p hj => by rcases j with _ | _ | _ | j <;> first | exact hj | cases hj) (Or.inl rfl) (c_put (M0 := M0) (Nn := Nn) rfl tN (by first | (rw [L1_n]; omega) | (rw [L2_n]; omega) | (simp [L1_n, L2_n]; done) | (simp [L1_n, L2_n]; omega)) (by omega)) (fun i j hi hj e => by rcases i with _ | _ | _ | i <;> rcases j with _ | _ | _ | j <;> first | rfl | exact absurd e (by decide) | (exfalso; simp at hi; done) | (exfalso; simp at hj; done) | (exfalso; simp at hi; omega) | (exfalso; simp at hj; omega)) rfl rfl rfl ⟨Nat.zero_le _, Nat.zero_le _⟩ (fun v122 C122 hq122 N122 hi122 ho122 => ?_)
        obtain ⟨rfl, tC122⟩ := hq122
        have tN122 := tC122.cg (hi122 0 (by simp))
        have kN122 : N122 1 = N0 1 := (ho122 1 (fun j hj => by simp at hj; omega)).trans kN
        refine n_aload_n dL_house_125 1 rfl rfl ?_
        refine n_iconst dL_house_126 ?_
        refine n_ialdv (i := 1) (n := 64) dL_house_127 rfl (by omega) (v3 kN122) ?_
        refine n_callS (ix := fun j => j) (as := [_, _, _, _]) dL_house_128 lvL_27 rfl ⟨rfl, rfl⟩ hap (fun j p hj => by rcases j with _ | _ | _ | j <;> first | exact hj | cases hj) (Or.inl rfl) (c_number (M0 := M0) (Nn := Nn) rfl tN122 (by first | (rw [L1_n]; omega) | (rw [L2_n]; omega) | (simp [L1_n, L2_n]; done) | (simp [L1_n, L2_n]; omega)) (by omega)) (fun i j hi hj e => by rcases i with _ | _ | _ | i <;> rcases j with _ | _ | _ | j <;> first | rfl | exact absurd e (by decide) | (exfalso; simp at hi; done) | (exfalso; simp at hj; done) | (exfalso; simp at hi; omega) | (exfalso; simp at hj; omega)) rfl rfl rfl ⟨Nat.zero_le _, Nat.zero_le _⟩ (fun v128 C128 hq128 N128 hi128 ho128 => ?_)
        obtain ⟨rfl, tC128⟩ := hq128
        have tN128 := tC128.cg (hi128 0 (by simp))
        have kN128 : N128 1 = N0 1 := (ho128 1 (fun j hj => by simp at hj; omega)).trans kN122
        refine n_istore_n (lv' := [(0, _), (1, _), (2, _), (3, _)]) dL_house_131 rfl rfl rfl ?_
        refine n_iconst dL_house_132 ?_
        refine n_istore_n (lv' := [(0, _), (1, _), (2, _), (3, _)]) dL_house_133 rfl rfl rfl ?_
        have e := lp2 0 (Nat.zero_le _) _ (tN128.ex (L20 _ R D T)) kN128
        rw [L20] at e
        exact e
      · exfalso; omega
  have kN0 : N0 1 = N0 1 := rfl
  obtain ⟨h, h', co, cc⟩ := hC
  refine n_aload_n dL_house_0 0 rfl rfl ?_
  refine n_iconst dL_house_1 ?_
  refine n_bipush dL_house_2 (by decide) ?_
  refine n_callVi (i := 0) (as := [_, _]) dL_house_4 lvL_23 rfl rfl ⟨rfl, rfl⟩ hap rfl (s_X7_text co cc (by omega) (by omega)) (fun _ _ => rfl) rfl rfl rfl ⟨Nat.zero_le _, Nat.zero_le _⟩ (fun z4 I4 L4 R4 hq4 => ?_)
  obtain ⟨z4e, co4, cc4⟩ := hq4
  obtain ⟨a1, a2, a3⟩ := TX_0 M0
  rw [a1] at z4e
  subst z4e
  have tN4 : TS (n_up N0 0 (I4, L4, R4) 0) M0 Nn [] := ⟨_, ⟨h, h', co4, cc4⟩, a2, a3⟩
  have kN4 : n_up N0 0 (I4, L4, R4) 1 = N0 1 := rfl
  refine n_bipush dL_house_7 (by decide) ?_
  refine n_ic_eq (tgt := 14) dL_house_9 (by decide) (by omega) (fun h9 => ?_) (fun h9 => ?_)
  · refine n_aload_n dL_house_14 0 rfl rfl ?_
    refine n_iconst dL_house_15 ?_
    refine n_aload_n dL_house_16 0 rfl rfl ?_
    refine n_iconst dL_house_17 ?_
    refine n_iconst dL_house_18 ?_
    refine n_bipush dL_house_19 (by decide) ?_
    refine n_callS (ix := fun j => j) (as := [_, _, _, _]) dL_house_21 lvL_14 rfl ⟨rfl, rfl⟩ hap (fun j p hj => by rcases j with _ | _ | _ | j <;> first | exact hj | cases hj) (Or.inl rfl) (c_put (M0 := M0) (Nn := Nn) rfl tN4 (by first | (rw [L1_n]; omega) | (rw [L2_n]; omega) | (simp [L1_n, L2_n]; done) | (simp [L1_n, L2_n]; omega)) (by omega)) (fun i j hi hj e => by rcases i with _ | _ | _ | i <;> rcases j with _ | _ | _ | j <;> first | rfl | exact absurd e (by decide) | (exfalso; simp at hi; done) | (exfalso; simp at hj; done) | (exfalso; simp at hi; omega) | (exfalso; simp at hj; omega)) rfl rfl rfl ⟨Nat.zero_le _, Nat.zero_le _⟩ (fun v21 C21 hq21 N21 hi21 ho21 => ?_)
    obtain ⟨rfl, tC21⟩ := hq21
    have tN21 := tC21.cg (hi21 0 (by simp))
    have kN21 : N21 1 = N0 1 := (ho21 1 (fun j hj => by simp at hj; omega)).trans kN4
    refine n_bipush dL_house_24 (by decide) ?_
    refine n_aload_n dL_house_26 1 rfl rfl ?_
    refine n_iconst dL_house_27 ?_
    refine n_ialdv (i := 1) (n := 64) dL_house_28 rfl (by omega) (v0 kN21) ?_
    refine n_iadd dL_house_29 ?_
    refine n_callS (ix := fun j => j) (as := [_, _, _, _]) dL_house_30 lvL_14 rfl ⟨rfl, rfl⟩ hap (fun j p hj => by rcases j with _ | _ | _ | j <;> first | exact hj | cases hj) (Or.inl rfl) (c_put (M0 := M0) (Nn := Nn) rfl tN21 (by first | (rw [L1_n]; omega) | (rw [L2_n]; omega) | (simp [L1_n, L2_n]; done) | (simp [L1_n, L2_n]; omega)) (by omega)) (fun i j hi hj e => by rcases i with _ | _ | _ | i <;> rcases j with _ | _ | _ | j <;> first | rfl | exact absurd e (by decide) | (exfalso; simp at hi; done) | (exfalso; simp at hj; done) | (exfalso; simp at hi; omega) | (exfalso; simp at hj; omega)) rfl rfl rfl ⟨Nat.zero_le _, Nat.zero_le _⟩ (fun v30 C30 hq30 N30 hi30 ho30 => ?_)
    obtain ⟨rfl, tC30⟩ := hq30
    have tN30 := tC30.cg (hi30 0 (by simp))
    have kN30 : N30 1 = N0 1 := (ho30 1 (fun j hj => by simp at hj; omega)).trans kN21
    refine n_istore_n (lv' := [(0, _), (1, _), (2, _)]) dL_house_33 rfl rfl rfl ?_
    refine n_iconst dL_house_34 ?_
    refine n_istore_n (lv' := [(0, _), (1, _), (2, _), (3, _)]) dL_house_35 rfl rfl rfl ?_
    exact lp1 0 (Nat.zero_le _) _ tN30 kN30
  · exfalso; omega

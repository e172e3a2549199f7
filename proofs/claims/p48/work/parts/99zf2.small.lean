/-! THE LAW'S OWN METHODS: cell, put, number. -/
theorem and28 (z : Int) : 0 ≤ z_and z 268435455 ∧ z_and z 268435455 ≤ 268435455 := by
  have h : ∀ k : Nat, k < 32 → 28 ≤ k → tb 268435455 k = false := by decide +kernel
  have := (tb_up (z_and_r z 268435455) 28 (by omega)).mpr (fun k h1 h2 => by rw [tb_and, h k h2 h1]; simp)
  omega
theorem n_ap1 (q : Nat × MS) : n_ap [q] := by
  intro i j p r hi hj hn
  rcases i with _ | i
  · rcases j with _ | j
    · exact absurd rfl hn
    · cases hj
  · cases hi
theorem n_ap0 : n_ap [] := fun i j p q hi => by cases hi
/-- the class's block, as it stands, with text 3 so far -/
def CRn (B : MM) (M Nn : MI) : Prop := ∃ h h', CO B.1 B.2.1 B.2.2 M Nn h h' ∧ CC B.1 B.2.1 B.2.2 M h
def TS (B : MM) (M0 Nn : MI) (l : List Int) : Prop := ∃ M, CRn B M Nn ∧ TX M l ∧ OT M0 M
theorem c_cell {G : GT} {a L : Nat} {xs : Nat → Int32} {N0 : NM} (hL : L ≤ 260) {k : Int} (hk : 0 ≤ k ∧ k ≤ 200) : n_Spec G mtL_cell (some (a, L, xs)) [mr a, mi k] [] N0 (fun v _ => ∃ z, v = some (mi z) ∧ 0 ≤ z ∧ z ≤ 268435455) := by
  refine n_Spec.of pnL_cell rfl (fun i q h => by cases h) ?_
  show n_Run G mtL_cell _ _ (some (a, L, xs)) [] 0 0 0 [(0, mr a), (1, mi k)] [] N0
  have hap := n_ap0
  refine n_iload_n dL_cell_0 1 rfl rfl ?_
  refine n_aload_n dL_cell_1 0 rfl rfl ?_
  refine n_slen dL_cell_2 rfl ?_
  refine n_ic_ge (tgt := 15) dL_cell_3 (by decide) (by omega) (fun h3 => ?_) (fun h3 => ?_)
  · refine n_bipush dL_cell_15 (by decide) ?_
    refine n_iload_n dL_cell_17 1 rfl rfl ?_
    refine n_imul dL_cell_18 ?_
    refine n_bipush dL_cell_19 (by decide) ?_
    refine n_iadd dL_cell_21 ?_
    refine n_iload_n dL_cell_22 1 rfl rfl ?_
    refine n_iconst dL_cell_23 ?_
    refine n_iadd dL_cell_24 ?_
    refine n_imul dL_cell_25 ?_
    refine n_iret dL_cell_26 rfl ?_
    first
    | exact ⟨_, rfl, and28 _⟩
    | (have h1 : (61 * k + 7) * (k + 3) ≤ 12207 * 203 := Int.mul_le_mul (by omega) (by omega) (by omega) (by omega)
       have h2 : 0 ≤ (61 * k + 7) * (k + 3) := Int.mul_nonneg (by omega) (by omega)
       exact ⟨_, rfl, by omega, by omega⟩)
  · refine n_aload_n dL_cell_6 0 rfl rfl ?_
    refine n_iload_n dL_cell_7 1 rfl rfl ?_
    refine n_sld dL_cell_8 rfl (by omega) (fun z8 hz8 => ?_)
    refine n_ldc (268435455) dL_cell_9 lkL_7 ?_
    refine n_iand dL_cell_11 ?_
    refine n_goto (tgt := 26) dL_cell_12 (by decide) ?_
    refine n_iret dL_cell_26 rfl ?_
    first
    | exact ⟨_, rfl, and28 _⟩
    | (have h1 : (61 * k + 7) * (k + 3) ≤ 12207 * 203 := Int.mul_le_mul (by omega) (by omega) (by omega) (by omega)
       have h2 : 0 ≤ (61 * k + 7) * (k + 3) := Int.mul_nonneg (by omega) (by omega)
       exact ⟨_, rfl, by omega, by omega⟩)
/-- a cell of the script -/
theorem n_cell {G : GT} {μ : MT} {rm : Room} {Z : NZ} {sc : NC} {bs : NB} {cells slots pc idx a L : Nat} {xs : Nat → Int32} {lv : List (Nat × MV)} {st : List MV} {N : NM} {k : Int} (hd : decode μ.cc pc = .ok (.invokestatic idx, 3)) (hk : m_LS μ.y.cls idx mtL_cell 2) (hroom : n_room rm mtL_cell = true) (hap : n_ap bs) (hs : sc = some (a, L, xs)) (hL : L ≤ 260) (hk2 : 0 ≤ k ∧ k ≤ 200) (hw : Nat.ble (m_wid st) 8 = true) (hc : cells ≤ rm.cells ∧ slots ≤ rm.slots)
    (kk : ∀ z : Int, 0 ≤ z ∧ z ≤ 268435455 → n_Run G μ rm Z sc bs cells slots (pc + 3) lv (mi z :: st) N) : n_Run G μ rm Z sc bs cells slots pc lv (mi k :: mr a :: st) N :=
  n_callS (ix := fun j => j) (bs' := []) (as := [mr a, mi k]) (st := st) hd hk hroom ⟨rfl, rfl⟩ hap (fun j p hj => by cases hj) (Or.inr hs.symm) (c_cell hL hk2) (fun i j hi => by cases hi) rfl rfl hw hc (fun v Nc hq N' _ ho => by
    obtain ⟨z, rfl, hz⟩ := hq
    have e : N' = N := funext (fun i => ho i (fun j hj => by cases hj))
    rw [e]
    exact kk z hz)
theorem c_put {G : GT} {r : Nat} {N0 : NM} {M0 Nn : MI} {l : List Int} {v p : Int} (hp : p = (l.length : Int)) (hT : TS (N0 0) M0 Nn l) (hl : l.length < 80) (hv : 0 ≤ v ∧ v ≤ 127) : n_Spec G mtL_put none [mr r, mi 3, mi p, mi v] [(r, shX)] N0 (fun w N => w = some (mi ((l ++ [v]).length : Int)) ∧ TS (N 0) M0 Nn (l ++ [v])) := by
  refine n_Spec.of pnL_put rfl trivial ?_
  show n_Run G mtL_put _ _ none [(r, shX)] 0 0 0 [(0, mr r), (1, mi 3), (2, mi p), (3, mi v)] [] N0
  have hap := n_ap1 (r, shX)
  subst hp
  obtain ⟨M, ⟨h, h', co, cc⟩, tx, ot⟩ := hT
  obtain ⟨e1, e2, e3⟩ := TX_p tx hl hv
  refine n_iload_n dL_put_0 2 rfl rfl ?_
  refine n_if_lt (tgt := 23) dL_put_1 (by decide) (by omega) (fun h1 => ?_) (fun h1 => ?_)
  · refine n_sipush dL_put_23 (by decide) ?_
    refine n_iret dL_put_26 rfl ?_
    first
    | (exfalso; omega)
    | exact ⟨by simp, (s_put 3 (l.length : Int) v M).2, ⟨h, h', co8, cc8⟩, e2, ot.tr e3⟩
  · refine n_aload_n dL_put_4 0 rfl rfl ?_
    refine n_iload_n dL_put_5 1 rfl rfl ?_
    refine n_iload_n dL_put_6 2 rfl rfl ?_
    refine n_iload_n dL_put_7 3 rfl rfl ?_
    refine n_callVi (i := 0) (as := [_, _, _]) dL_put_8 lvL_8 rfl rfl ⟨rfl, rfl⟩ hap rfl (s_X7_put co cc (by omega) (by omega) (by omega)) (fun _ _ => rfl) rfl rfl rfl ⟨Nat.zero_le _, Nat.zero_le _⟩ (fun z8 I8 L8 R8 hq8 => ?_)
    obtain ⟨z8e, co8, cc8⟩ := hq8
    rw [e1] at z8e
    subst z8e
    refine n_sipush dL_put_11 (by decide) ?_
    refine n_ic_ne (tgt := 23) dL_put_14 (by decide) (by omega) (fun h14 => ?_) (fun h14 => ?_)
    · refine n_sipush dL_put_23 (by decide) ?_
      refine n_iret dL_put_26 rfl ?_
      first
      | (exfalso; omega)
      | exact ⟨by simp, (s_put 3 (l.length : Int) v M).2, ⟨h, h', co8, cc8⟩, e2, ot.tr e3⟩
    · refine n_iload_n dL_put_17 2 rfl rfl ?_
      refine n_iconst dL_put_18 ?_
      refine n_iadd dL_put_19 ?_
      refine n_goto (tgt := 26) dL_put_20 (by decide) ?_
      refine n_iret dL_put_26 rfl ?_
      first
      | (exfalso; omega)
      | exact ⟨by simp, (s_put 3 (l.length : Int) v M).2, ⟨h, h', co8, cc8⟩, e2, ot.tr e3⟩
theorem c_number {G : GT} {r : Nat} {N0 : NM} {M0 Nn : MI} {l : List Int} {v p : Int} (hp : p = (l.length : Int)) (hT : TS (N0 0) M0 Nn l) (hl : l.length < 80) (hv : 0 ≤ v ∧ v < 10) : n_Spec G mtL_number none [mr r, mi 3, mi p, mi v] [(r, shX)] N0 (fun w N => w = some (mi ((l ++ [48 + v]).length : Int)) ∧ TS (N 0) M0 Nn (l ++ [48 + v])) := by
  refine n_Spec.of pnL_number rfl trivial ?_
  show n_Run G mtL_number _ _ none [(r, shX)] 0 0 0 [(0, mr r), (1, mi 3), (2, mi p), (3, mi v)] [] N0
  have hap := n_ap1 (r, shX)
  refine n_iload_n dL_number_0 3 rfl rfl ?_
  refine n_bipush dL_number_1 (by decide) ?_
  refine n_ic_ge (tgt := 19) dL_number_3 (by decide) (by omega) (fun h3 => ?_) (fun h3 => ?_)
  · exfalso; omega
  · refine n_aload_n dL_number_6 0 rfl rfl ?_
    refine n_iload_n dL_number_7 1 rfl rfl ?_
    refine n_iload_n dL_number_8 2 rfl rfl ?_
    refine n_bipush dL_number_9 (by decide) ?_
    refine n_iload_n dL_number_11 3 rfl rfl ?_
    refine n_iadd dL_number_12 ?_
    refine n_callS (ix := fun j => j) (as := [_, _, _, _]) dL_number_13 lvL_14 rfl ⟨rfl, rfl⟩ hap (fun j p hj => by rcases j with _ | _ | _ | j <;> first | exact hj | cases hj) (Or.inl rfl) (c_put hp hT hl (by omega)) (fun i j hi hj e => by rcases i with _ | _ | _ | i <;> rcases j with _ | _ | _ | j <;> first | rfl | exact absurd e (by decide) | (exfalso; simp at hi; done) | (exfalso; simp at hj; done) | (exfalso; simp at hi; omega) | (exfalso; simp at hj; omega)) rfl rfl rfl ⟨Nat.zero_le _, Nat.zero_le _⟩ (fun v13 C13 hq13 N13 hi13 ho13 => ?_)
    obtain ⟨rfl, tsx⟩ := hq13
    refine n_goto (tgt := 44) dL_number_16 (by decide) ?_
    refine n_iret dL_number_44 rfl ?_
    exact ⟨rfl, by rw [show N13 0 = C13 0 from hi13 0 (by simp)]; exact tsx⟩

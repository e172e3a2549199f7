/-! THE LAW: its own small machine: the class at bx, the reference at bm, i ints read. -/
def R_law : String := "CreakBoardsLaw"
def lw_P (b : Addr) (xs : List Int32) (args : Array Value) (s : State) : Prop := args = #[.ref b] ∧ s.IntsAt b xs ∧ xs.length ≤ 3072 ∧ (Jvm.Cond.and given_1 narrow_1).before args s = true
def lw_Q (_ : Array Value) (s : State) (o : Outcome) (t : State) : Prop := o = .returned (some (.int 1)) ∧ Framed s o t [] 600000 7302250
def lw_Z (below : List Frame) (a : Array Value) (s : State) : State → Prop := fun t => ∃ o, t.status = .running ∧ Ended t below o ∧ lw_Q a s o t
/-- the law's own end, with 1 on the stack, nothing written that was there before, its room as the claim has it -/
theorem lw_ret {p : Program} {l : Launch} {e : Env} {s : State} {m : MethodId} {below : List Frame} {meth : Method} {c : Code} {b : Nat} (hx : p.tables.exec = Jvm.exec) (hb : c.code = code) (hr : meth.sig.returnType = ret) (hlocks : meth.locks = false) {pc : Nat} {H : Heap} {ls : Array Slot} (hdg : decode code pc = .ok (.ireturn, 1)) : W p l e room_1 s m #[Value.ref b] below meth c H [] 600000 7302250 (lw_Z below #[Value.ref b] s) (F0 m pc ls [.int 1]) := by
  intro T hT X
  obtain ⟨fs, hret, hrun, hended, hW, hframe⟩ := X.leave (v := some (.int 1)) (hlocks := hlocks) (fun h => by rw [hr] at h; cases h)
  have hmeth' : T.vm.method? m = some meth := X.method'
  refine ⟨T.setFrames fs, ?_, .returned (some (.int 1)), hrun, hended, rfl, ⟨_, rfl⟩, hW, hframe⟩
  jvm_step X.here [X.here.top, hx, hb, hdg, hmeth', hr, ret, narrow_b1]
  (try refine ⟨rfl, ?_⟩); (try refine ⟨rfl, ?_⟩)
  first | (intro acts; rw [hret _ acts rfl rfl rfl]) | rw [hret _ _ rfl rfl rfl]
  exact Steps.refl _
/-- what holds at the law's entry: the machine, the code, the tables' words (any of lw_tbl by 'hts w (by decide +kernel)'), the script of L ints xs at the cell b, what the Statement gives of the start (any of its parts by flat_of_before) -/
def lw_At (p : Program) (s : State) (m : MethodId) (meth : Method) (c : Code) (b L : Nat) (xs : Nat → Int32) : Prop :=
  p.tables.exec = Jvm.exec ∧ c.code = code ∧ meth.sig.returnType = ret ∧ c.maxLocals = 4 ∧ s.vm.findClass R_law = some m.cls ∧ (∀ w ∈ lw_tbl, w.before #[Value.ref b] s = true) ∧ va_X b L xs s s.heap ∧ b < s.heap.size ∧ meth.locks = false ∧ (Jvm.Cond.and given_1 narrow_1).before #[Value.ref b] s = true
def sv (xs : Nat → Int32) (k : Nat) : Int := (xs k).toInt
theorem sv_o (xs : Nat → Int32) (k : Nat) : Int32.ofInt (sv xs k) = xs k := Int32.ofInt_toInt _
theorem sv_r (xs : Nat → Int32) (k : Nat) : rI (sv xs k) := z_rng _
def LC (G : GT) (p : Program) (s : State) (m : MethodId) (meth : Method) (c : Code) (b L : Nat) (xs : Nat → Int32) (bx bm : Nat) : Prop := lw_At p s m meth c b L xs ∧ m_KK G s ∧ s.heap.size ≤ bx ∧ bx + 69 ≤ bm
def LW (G : GT) (p : Program) (e : Env) (s : State) (m : MethodId) (below : List Frame) (meth : Method) (c : Code) (b bx bm : Nat) (i : Int32) (pc : Nat) (st : List Value) (I K : MI) (R : MR) (M N : MI) : Prop :=
  ∀ (H : Heap) (locs : List Loc) (ls : Array Slot), va_P G.2.1 vwCl (m_ws G bx shX (I, K, R)) H → va_P G.2.1 vwCl (m_ws G bm shM (M, N, rM)) H → va_S (fun q => s.heap.size ≤ q) s.heap H locs → lv_has ls 4 [(0, .ref b), (1, .ref bx), (2, .ref bm), (3, .int i)] →
    W p G.1 e room_1 s m #[Value.ref b] below meth c H locs 600000 7302250 (lw_Z below #[Value.ref b] s) (F0 m pc ls st)
theorem m_ws_get {G : GT} {b : Nat} {sh : MS} {M : MM} {k : Nat} {x : Nat × va_E} (h : (m_ws G b sh M)[k]? = some x) : x.1 = b + k ∧ k < sh.length := by
  simp only [m_ws, List.getElem?_mapIdx, Option.map_eq_some_iff] at h
  obtain ⟨d, hd, rfl⟩ := h
  exact ⟨rfl, (List.getElem?_eq_some_iff.mp hd).1⟩
theorem m_ws_D {G : GT} {b : Nat} {sh : MS} {M : MM} {A : Nat → Prop} (h : ∀ k, k < sh.length → A (b + k)) : va_D A (m_ws G b sh M) := by
  refine ⟨fun i j p q hi hj e => ?_, fun k q hk => ?_⟩
  · have := (m_ws_get hi).1
    have := (m_ws_get hj).1
    omega
  · obtain ⟨e, l⟩ := m_ws_get hk
    rw [e]
    exact h k l
section
variable {G : GT} {p : Program} {e : Env} {s : State} {m : MethodId} {below : List Frame} {meth : Method} {c : Code} {b L : Nat} {xs : Nat → Int32} {bx bm : Nat} {i : Int32} {pc : Nat} {st : List Value} {I K : MI} {R : MR} {M N : MI}
theorem l_x (hC : LC G p s m meth c b L xs bx bm) (hd : decode cL_law pc = .ok (.aload_n 1, 1)) (k : LW G p e s m below meth c b bx bm i (pc + 1) (.ref bx :: st) I K R M N) : LW G p e s m below meth c b bx bm i pc st I K R M N :=
  fun H locs ls h1 h2 h3 hl => lv_aload_n hC.1.1 hC.1.2.1 hd rfl (lv_at hl 1 rfl) (k H locs ls h1 h2 h3 hl)
theorem l_m (hC : LC G p s m meth c b L xs bx bm) (hd : decode cL_law pc = .ok (.aload_n 2, 1)) (k : LW G p e s m below meth c b bx bm i (pc + 1) (.ref bm :: st) I K R M N) : LW G p e s m below meth c b bx bm i pc st I K R M N :=
  fun H locs ls h1 h2 h3 hl => lv_aload_n hC.1.1 hC.1.2.1 hd rfl (lv_at hl 2 rfl) (k H locs ls h1 h2 h3 hl)
/-- an int of the script -/
theorem l_arg {n k : Nat} (hC : LC G p s m meth c b L xs bx bm) (h0 : decode cL_law pc = .ok (.aload_n 0, 1)) (h1 : decode cL_law (pc + 1) = .ok (.iload_n 3, 1)) (h2 : decode cL_law (pc + 2) = .ok (.iconst (k : Int), 1)) (h3 : decode cL_law (pc + 3) = .ok (.iadd, 1)) (h4 : decode cL_law (pc + 4) = .ok (.iaload, 1)) (hk : Int32.ofInt (k : Int) = nI k) (hi : i = nI n) (hn : n + k < L ∧ L ≤ 3072)
    (kk : LW G p e s m below meth c b bx bm i (pc + 5) (.int (Int32.ofInt (sv xs (n + k))) :: st) I K R M N) : LW G p e s m below meth c b bx bm i pc st I K R M N := by
  intro H locs ls hP1 hP2 hS hl
  obtain ⟨⟨hx, hb, hr, hml, hown, hts, hX, hbl, hlocks, hgv⟩, hKK, hbx, hbm⟩ := hC
  have hbA : ¬ (fun q : Nat => s.heap.size ≤ q) b := Nat.not_le.mpr hbl
  refine lv_aload_n hx hb h0 rfl (lv_at hl 0 rfl) ?_
  refine lv_iload_n hx hb h1 rfl (lv_at hl 3 rfl) ?_
  refine lv_iconst (v := nI k) hx hb h2 hk ?_
  refine lv_iadd hx hb h3 ?_
  rw [hi, nI_add]
  refine va_sld hx hb hX hbl hbA hS (vp_in_nI hn.1 (by omega)) h4 ?_
  rw [nI_clamp (show n + k < 2 ^ 31 by omega), ← sv_o xs (n + k)]
  exact kk H locs ls hP1 hP2 hS hl
/-- whether an int isn't 0 -/
def nz (x : Int) : Int := if x = 0 then 0 else 1
theorem nz_r (x : Int) : rI (nz x) := by unfold nz; split <;> omega
theorem l_nz {x : Int} (hC : LC G p s m meth c b L xs bx bm) (hr : rI x) (h0 : decode cL_law pc = .ok (.ifCond .eq 7, 3)) (h1 : decode cL_law (pc + 3) = .ok (.iconst 1, 1)) (h2 : decode cL_law (pc + 4) = .ok (.goto 4, 3)) (h3 : decode cL_law (pc + 7) = .ok (.iconst 0, 1))
    (kk : LW G p e s m below meth c b bx bm i (pc + 8) (.int (Int32.ofInt (nz x)) :: st) I K R M N) : LW G p e s m below meth c b bx bm i pc (.int (Int32.ofInt x) :: st) I K R M N := by
  intro H locs ls hP1 hP2 hS hl
  have hx := hC.1.1
  have hb := hC.1.2.1
  have k := kk H locs ls hP1 hP2 hS hl
  refine lv_if_eq (tgt := pc + 7) hx hb h0 (by omega) (fun q => ?_) (fun q => ?_)
  · have : x = 0 := (z_eq (y := 0) hr (by omega)).mp q
    unfold nz at k
    rw [if_pos this] at k
    exact lv_iconst (v := Int32.ofInt 0) hx hb h3 rfl k
  · have : ¬ x = 0 := fun z => q (by rw [z]; rfl)
    unfold nz at k
    rw [if_neg this] at k
    refine lv_iconst (v := Int32.ofInt 1) hx hb h1 rfl ?_
    exact lv_goto (tgt := pc + 8) hx hb h2 (by omega) k
/-- the answers are alike -/
theorem l_eqI {x y : Int32} {off : Int} {tgt : Nat} (hC : LC G p s m meth c b L xs bx bm) (hd : decode cL_law pc = .ok (.if_icmp .eq off, 3)) (ht : (pc : Int) + off = (tgt : Int)) (he : x = y) (k : LW G p e s m below meth c b bx bm i tgt st I K R M N) : LW G p e s m below meth c b bx bm i pc (.int y :: .int x :: st) I K R M N :=
  fun H locs ls h1 h2 h3 hl => lv_icmp_eq hC.1.1 hC.1.2.1 hd ht (fun _ => k H locs ls h1 h2 h3 hl) (fun q => absurd he q)
theorem l_eqL {x y : Int64} {off : Int} {tgt : Nat} (hC : LC G p s m meth c b L xs bx bm) (hd : decode cL_law pc = .ok (.lcmp, 1)) (hd2 : decode cL_law (pc + 1) = .ok (.ifCond .eq off, 3)) (ht : ((pc + 1 : Nat) : Int) + off = (tgt : Int)) (he : x = y) (k : LW G p e s m below meth c b bx bm i tgt st I K R M N) : LW G p e s m below meth c b bx bm i pc (.long y :: .long x :: st) I K R M N := by
  subst he
  intro H locs ls h1 h2 h3 hl
  refine W.lcmp hC.1.1 hC.1.2.1 hd ?_
  have e0 : lg_cmp x x = 0 := by simp [lg_cmp]
  rw [e0]
  exact lv_if_eq hC.1.1 hC.1.2.1 hd2 ht (fun _ => k H locs ls h1 h2 h3 hl) (fun q => absurd rfl q)
theorem l_callX {idx nn : Nat} {μ' : MT} {as : List MV} {st0 : List Value} {Q' : Option MV → MI → MI → MR → Prop} (hC : LC G p s m meth c b L xs bx bm) (hd : decode cL_law pc = .ok (.invokevirtual idx, 3)) (hk : m_LV RL idx μ' nn) (hroom : (Nat.ble (μ'.fr + 1) 12 && Nat.ble (8 + (μ'.nL + 11) + μ'.lo) 458) = true) (hcls : RX7 = μ'.y.cls) (h0 : μ'.mc = 0 ∧ μ'.ms = 0) (hs : Sp G μ' (mr 0 :: as) shX I K R Q') (hst : st0 = (as.map (m_tv bx)).reverse ++ .ref bx :: st) (hn : as.length = nn) (hw : (st.map fun v => v.category).sum ≤ 8)
    (kk : ∀ v I' K' R', Q' v I' K' R' → LW G p e s m below meth c b bx bm i (pc + 3) ((v.map (m_tv bx)).toList ++ st) I' K' R' M N) : LW G p e s m below meth c b bx bm i pc st0 I K R M N := by
  intro H locs ls hPx hPm hS hl
  obtain ⟨⟨hx, hb, hr, hml, hown, hts0, hX, hbl, hlocks, hgv⟩, hKK, hbx, hbm⟩ := hC
  obtain ⟨⟨w1, w2, w3, w4, w5⟩, d1, d2, d3⟩ := hk
  have hts : ∀ w ∈ m_tbl, w.before #[Value.ref b] s = true := fun w hw => hts0 w (List.mem_filter.mp hw).1
  simp only [Bool.and_eq_true] at hroom
  have cw : CallW room_1 s #[Value.ref b] RL μ'.y.cls idx μ'.y μ'.cc μ'.nL μ'.ret μ'.ws μ'.rm μ'.mc μ'.ms nn := cwV nn hts (m_goodIn (by
    intro w hw
    rcases List.mem_append.mp hw with h | h
    · simp only [List.mem_cons, List.not_mem_nil, or_false] at h
      rcases h with rfl | rfl | rfl | rfl <;> assumption
    · rcases List.mem_cons.mp h with rfl | h
      · exact w5
      · exact h)) rfl rfl rfl ⟨rfl, d1, d2, d3⟩ ⟨Nat.le_of_ble_eq_true hroom.1, Nat.le_of_ble_eq_true hroom.2⟩
  have hD : va_D (fun _ => True) (m_ws G bx shX (I, K, R)) := m_ws_D (fun _ _ => trivial)
  have hsub : ∀ q, va_A (m_ws G bx shX (I, K, R)) H.size q → s.heap.size ≤ q := by
    rintro q (⟨k, e2, hk⟩ | hq)
    · have := (m_ws_get hk).1
      simp only at this
      omega
    · exact Nat.le_trans hS.1 hq
  have run := va_runV (As := as.map (m_tv bx)) (rest := st) (b := bx + 0) (c := c) (cc := cL_law) (nL := 4) (g := F0 m pc ls st0) (locs := locs) (cells := 600000) (slots := 7302250) (below := below) (e := e) (p := p) (l := G.1) (meth := meth) ⟨hx, hb, hml, hown, hts⟩ (hs bx H.size) cw ⟨m_blind, by rw [← hcls]; exact va_recv hKK.1 hPx (ci := 7) (q0 := 0) rfl (m_ws_at (d := .inl 7) rfl), fun U hU hW => ⟨rfl, by rw [hU], by rw [hU]; exact hPx, hKK.warm hW, hD, fun h => by cases h⟩⟩ rfl (by rw [List.length_map]; exact hn) hl.1 hst (lv_room hw) hd (by rw [h0.1, h0.2]; exact ⟨Nat.le_refl _, Nat.le_refl _⟩)
  intro T hT X
  obtain ⟨v, st₀, t, T', Lc, h0', X', hLc, e1, e2, ⟨v', sh', M', hv, hq, hP', hD', ht', hz, hk'⟩, stp⟩ := run T hT X
  cases hv
  rw [h0'] at hz hk'
  obtain ⟨rfl, hq⟩ := hq
  rw [h0.1, h0.2] at X'
  have oth : va_P G.2.1 vwCl (m_ws G bm shM (M, N, rM)) T'.heap := by
    intro k x hx
    have l1 := (hPm k x hx).lt
    have l2 := m_ws_get hx
    refine (hPm k x hx).kept ?_
    rw [e1]
    refine hk' x.1 l1 ?_
    rintro (⟨k2, e2, hk2⟩ | hq2)
    · have l3 := m_ws_get hk2
      have s1 : shX.length = 69 := rfl
      have s2 : shM.length = 27 := rfl
      simp only at l3
      omega
    · omega
  skip
  have K9 := kk v' M'.1 M'.2.1 M'.2.2 hq T'.heap (locs ++ Lc) ls (by rw [e1]; exact hP') oth ⟨Nat.le_trans hS.1 (by rw [e1]; exact hz), fun q h1 h2 => by rw [e1, hk' q (Nat.lt_of_lt_of_le h1 hS.1) (fun z => h2 (hsub q z))]; exact hS.2.1 q h1 h2, fun q hq => by
      rcases List.mem_append.mp hq with h | h
      · exact hS.2.2 q h
      · exact hsub _ (hLc q h)⟩ hl
  obtain ⟨t2, a1, b1⟩ := K9 T' rfl X'
  exact ⟨t2, stp t2 a1, b1⟩
theorem l_callM {idx nn : Nat} {μ' : MT} {as : List MV} {st0 : List Value} {Q' : Option MV → MI → MI → MR → Prop} (hC : LC G p s m meth c b L xs bx bm) (hd : decode cL_law pc = .ok (.invokevirtual idx, 3)) (hk : m_LV RL idx μ' nn) (hroom : (Nat.ble (μ'.fr + 1) 12 && Nat.ble (8 + (μ'.nL + 11) + μ'.lo) 458) = true) (hcls : RX8 = μ'.y.cls) (h0 : μ'.mc = 0 ∧ μ'.ms = 0) (hs : Sp G μ' (mr 0 :: as) shM M N rM Q') (hst : st0 = (as.map (m_tv bm)).reverse ++ .ref bm :: st) (hn : as.length = nn) (hw : (st.map fun v => v.category).sum ≤ 8)
    (kk : (∀ v M' N' R', Q' v M' N' R' → R' = rM ∧ LW G p e s m below meth c b bx bm i (pc + 3) ((v.map (m_tv bm)).toList ++ st) I K R M' N')) : LW G p e s m below meth c b bx bm i pc st0 I K R M N := by
  intro H locs ls hPx hPm hS hl
  obtain ⟨⟨hx, hb, hr, hml, hown, hts0, hX, hbl, hlocks, hgv⟩, hKK, hbx, hbm⟩ := hC
  obtain ⟨⟨w1, w2, w3, w4, w5⟩, d1, d2, d3⟩ := hk
  have hts : ∀ w ∈ m_tbl, w.before #[Value.ref b] s = true := fun w hw => hts0 w (List.mem_filter.mp hw).1
  simp only [Bool.and_eq_true] at hroom
  have cw : CallW room_1 s #[Value.ref b] RL μ'.y.cls idx μ'.y μ'.cc μ'.nL μ'.ret μ'.ws μ'.rm μ'.mc μ'.ms nn := cwV nn hts (m_goodIn (by
    intro w hw
    rcases List.mem_append.mp hw with h | h
    · simp only [List.mem_cons, List.not_mem_nil, or_false] at h
      rcases h with rfl | rfl | rfl | rfl <;> assumption
    · rcases List.mem_cons.mp h with rfl | h
      · exact w5
      · exact h)) rfl rfl rfl ⟨rfl, d1, d2, d3⟩ ⟨Nat.le_of_ble_eq_true hroom.1, Nat.le_of_ble_eq_true hroom.2⟩
  have hD : va_D (fun _ => True) (m_ws G bm shM (M, N, rM)) := m_ws_D (fun _ _ => trivial)
  have hsub : ∀ q, va_A (m_ws G bm shM (M, N, rM)) H.size q → s.heap.size ≤ q := by
    rintro q (⟨k, e2, hk⟩ | hq)
    · have := (m_ws_get hk).1
      simp only at this
      omega
    · exact Nat.le_trans hS.1 hq
  have run := va_runV (As := as.map (m_tv bm)) (rest := st) (b := bm + 0) (c := c) (cc := cL_law) (nL := 4) (g := F0 m pc ls st0) (locs := locs) (cells := 600000) (slots := 7302250) (below := below) (e := e) (p := p) (l := G.1) (meth := meth) ⟨hx, hb, hml, hown, hts⟩ (hs bm H.size) cw ⟨m_blind, by rw [← hcls]; exact va_recv hKK.1 hPm (ci := 8) (q0 := 0) rfl (m_ws_at (d := .inl 8) rfl), fun U hU hW => ⟨rfl, by rw [hU], by rw [hU]; exact hPm, hKK.warm hW, hD, fun h => by cases h⟩⟩ rfl (by rw [List.length_map]; exact hn) hl.1 hst (lv_room hw) hd (by rw [h0.1, h0.2]; exact ⟨Nat.le_refl _, Nat.le_refl _⟩)
  intro T hT X
  obtain ⟨v, st₀, t, T', Lc, h0', X', hLc, e1, e2, ⟨v', sh', M', hv, hq, hP', hD', ht', hz, hk'⟩, stp⟩ := run T hT X
  cases hv
  rw [h0'] at hz hk'
  obtain ⟨rfl, hq⟩ := hq
  rw [h0.1, h0.2] at X'
  have oth : va_P G.2.1 vwCl (m_ws G bx shX (I, K, R)) T'.heap := by
    intro k x hx
    have l1 := (hPx k x hx).lt
    have l2 := m_ws_get hx
    refine (hPx k x hx).kept ?_
    rw [e1]
    refine hk' x.1 l1 ?_
    rintro (⟨k2, e2, hk2⟩ | hq2)
    · have l3 := m_ws_get hk2
      have s1 : shX.length = 69 := rfl
      have s2 : shM.length = 27 := rfl
      simp only at l3
      omega
    · omega
  obtain ⟨hR, kk⟩ := kk v' M'.1 M'.2.1 M'.2.2 hq
  have hP' : va_P G.2.1 vwCl (m_ws G bm shM (M'.1, M'.2.1, rM)) t.heap := by rw [← hR]; exact hP'
  have K9 := kk T'.heap (locs ++ Lc) ls oth (by rw [e1]; exact hP') ⟨Nat.le_trans hS.1 (by rw [e1]; exact hz), fun q h1 h2 => by rw [e1, hk' q (Nat.lt_of_lt_of_le h1 hS.1) (fun z => h2 (hsub q z))]; exact hS.2.1 q h1 h2, fun q hq => by
      rcases List.mem_append.mp hq with h | h
      · exact hS.2.2 q h
      · exact hsub _ (hLc q h)⟩ hl
  obtain ⟨t2, a1, b1⟩ := K9 T' rfl X'
  exact ⟨t2, stp t2 a1, b1⟩
end

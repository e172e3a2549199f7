/-! THE LAW: how it begins. -/
def M00 : MI := fun c j => if c = 0 ∧ j = 11 then 1 else if c = 0 ∧ j = 14 then 12 else if c = 2 ∨ c = 5 then -1 else 0
def N00 : MI := fun _ j => if j = 5 then 1 else 0
/-- the class at first -/
theorem cr_0 {I K : MI} {R : MR} (hX : X0I I K R) : CRn (I, K, R) M00 N00 := by
  obtain ⟨x1, ⟨x2, x3⟩, x4, ⟨x5, x6⟩, ⟨x7, x8, x9, x10, x11⟩, x12, x13, x14, ⟨x15, x16, x17, x18⟩, x19, x20, x21, x22⟩ := hX
  have m1 : M00 0 0 = 0 := rfl
  have m2 : M00 0 2 = 0 := rfl
  have m4 : M00 0 11 = 1 := rfl
  have m5 : M00 0 12 = 0 := rfl
  have m6 : M00 0 13 = 0 := rfl
  have m7 : M00 0 14 = 12 := rfl
  have m8 : M00 0 25 = 0 := rfl
  have m9 : ∀ f, M00 1 f = 0 := fun f => rfl
  have m10 : ∀ r, M00 2 r = -1 := fun r => rfl
  have m11 : ∀ r, M00 3 r = 0 := fun r => rfl
  have m12 : ∀ r, M00 5 r = -1 := fun r => rfl
  have m13 : ∀ r, M00 6 r = 0 := fun r => rfl
  have jr : iRows M00 := ⟨fun r h1 h2 => by rw [m10 r]; omega, fun k _ _ => by rw [m11]; omega⟩
  have jt : iTexts M00 := ⟨fun t h1 h2 => by rw [m12 t]; omega, fun k _ _ => by rw [m13]; omega⟩
  have jh : iHs M00 := ⟨by omega, by omega, by omega, by omega, fun d h1 h2 => by omega, fun w h1 h2 => by omega⟩
  have je : iEvs M00 := ⟨by omega, fun e he => by omega⟩
  have jl : iEvL M00 := fun e h1 h2 => by omega
  have hr : HRL I M00 32 := by
    refine ⟨⟨by omega, by omega, by omega, by omega, ?_⟩, fun d hd => by omega, fun w hw => by omega⟩
    rw [m5, x11]
    rfl
  have nr : NRL I M00 58 := ⟨by omega, fun e he => by omega⟩
  refine ⟨32, 37, ⟨x1, ⟨x2, x3, Or.inl ⟨rfl, rfl⟩⟩, ⟨29, 30, 31, x4⟩, ⟨by show rI (I 19 12); rw [x5]; omega, by show rI (I 19 15); rw [x6]; omega⟩, ⟨jh, je, jl, jr, jt⟩, hr, nr, fun r h => ?_, fun t h => ?_, ⟨by show I 0 13 = _; omega, by show I 0 14 = _; omega, fun f h => ?_⟩, by show K 0 16 = _; rw [x20]; rfl, by show K 0 17 = _; rw [x21]; rfl, by show K 0 18 = _; rw [x22]; rfl⟩, ⟨⟨Or.inl x15, Or.inl x16⟩, fun q => by have q : I 0 10 = 1 := q; omega⟩⟩
  · have a := x13 r h
    have b := m10 (r : Int)
    exact ⟨by show I 9 (r : Int) = _; rw [a.1, b], fun i _ _ => by show rI (I (3 + r) i); rw [a.2]; omega, fun i h1 h2 => by omega⟩
  · have a := x14 t h
    have b := m12 (t : Int)
    exact ⟨by show I 16 (t : Int) = _; rw [a.1, b], fun i _ _ => by show -128 ≤ I (12 + t) i ∧ I (12 + t) i ≤ 127; rw [a.2]; omega, fun i h1 h2 => by omega⟩
  · show I 68 (f : Int) = _
    rw [x19 f h, m9]
def Mz : MM := (fun _ _ => 0, fun _ _ => 0, fun _ _ => none)
/-- classes and array classes, as the tables have them -/
theorem ld_KK (l : Launch) {s : State} {args : Array Value} (hts : ∀ w ∈ lw_tbl, w.before args s = true) : ∃ G : GT, G.1 = l ∧ m_KK G s := by
  have htm : ∀ w ∈ m_tbl, w.before args s = true := fun w hw => hts w (List.mem_filter.mp hw).1
  have inst : ∀ (k : Nat) (q : vw_C), vwCl[k]? = some q → Cond.instantiable q.1 q.2.2 ∈ m_tbl := fun k q h => by
    match k, h with
    | 0, h => cases h; exact clX7_35.2.1
    | 1, h => cases h; exact clX6_9.2.1
    | 2, h => cases h; exact clX7_57.2.1
    | 3, h => cases h; exact clX7_45.2.1
    | 4, h => cases h; exact clX7_21.2.1
    | 5, h => cases h; exact clX7_9.2.1
    | 6, h => cases h; exact clX7_28.2.1
    | 7, h => cases h; exact clL_9.2.1
    | k + 8, h => simp [vwCl] at h
  have kn : ∀ k : Nat, ∃ (cC : ClassId) (iS : Nat → Nat), ∀ q, vwCl[k]? = some q → u_Kn s q.1 q.2.1 q.2.2 cC iS := by
    intro k
    cases h : vwCl[k]? with
    | none => exact ⟨0, fun _ => 0, fun q hq => by cases hq⟩
    | some q =>
      obtain ⟨cC, iS, h2⟩ := u_known (C := q.1) (T := q.2.1) (N := q.2.2) (n := q.2.2) htm (m_cls h).1 (htm _ (inst k q h))
      exact ⟨cC, iS, fun q' hq' => by cases hq'; exact h2⟩
  have ar : ∀ ty, (Cond.arrayClass ty).before args s = true → ∃ cA, ArrOfT s cA ty ∧ s.vm.findClass ("[" ++ ty.toString) = some cA := fun ty h => by
    obtain ⟨cA, kA, comp, h1, h2, h3⟩ := Cond.arrayClass_spec h
    exact ⟨cA, fun n z => ⟨fun k h => (by cases h), kA, h2, comp, h3⟩, h1⟩
  obtain ⟨a0, b0, f0⟩ := ar .int (htm _ waInt)
  obtain ⟨a1, b1, f1⟩ := ar .long (htm _ waLong)
  have ov : (Cond.arrayOver (.array .int)).before args s = true := hts _ (by decide +kernel)
  obtain ⟨comp, a3, k3, -, -, h1, h2, f3⟩ := arrayOverA_spec ov
  refine ⟨(l, (fun k => (kn k).choose, fun k => (kn k).choose_spec.choose), fun k => if k = 0 then a0 else if k = 1 then a1 else if k = 2 then a0 else a3), rfl, ⟨fun k q h => (kn k).choose_spec.choose_spec q h, fun k q h => ?_⟩, fun q hq => ?_, over_moved (Vm.Alike.refl _) ov⟩
  · match k, h with
    | 0, h => cases h; exact ⟨b0, f0⟩
    | 1, h => cases h; exact ⟨b1, f1⟩
    | 2, h => cases h; exact ⟨b0, f0⟩
    | 3, h => cases h; exact ⟨fun n z => ⟨fun k h => (by cases h), k3, h1, comp, h2⟩, f3⟩
    | k + 4, h => simp [m_tys] at h
  · simp only [m_nests, List.mem_cons, List.not_mem_nil, or_false] at hq
    rcases hq with rfl | rfl | rfl
    · exact va_Nw.of rfl (hts _ (by decide +kernel))
    · exact va_Nw.of rfl (hts _ (by decide +kernel))
    · exact va_Nw.of rfl (hts _ (by decide +kernel))
section
variable {G : GT} {p : Program} {e : Env} {s : State} {m : MethodId} {below : List Frame} {meth : Method} {c : Code} {b L : Nat} {xs : Nat → Int32} {cells slots pc bz ci : Nat} {H : Heap} {locs : List Loc} {ls : Array Slot} {lv : List (Nat × Value)} {st : List Value} {Q : State → Prop}
/-- a new object of the law -/
theorem l_new {idx n : Nat} {q : vw_C} (C0 : lw_At p s m meth c b L xs) (hKK : m_KK G s) (hd : decode cL_law pc = .ok (.new idx, 3)) (hq : vwCl[ci]? = some q) (hw : Cond.classLink RL idx q.1 ∈ m_tbl) (hw2 : Cond.instantiable q.1 n ∈ m_tbl) (hw3 : Cond.initialized q.1 ∈ m_tbl) (hok : (List.range (m_nf ci)).all (fun k => m_okT (m_fty ci k)) = true) (hm : cells + 1 ≤ 600000 ∧ slots + n ≤ 7302250) (hz : H.size = bz)
    (kk : ∀ H1 : Heap, H1.size = bz + 1 → (∀ x, x < bz → H1[x]? = H[x]?) → va_P G.2.1 vwCl (m_ws G bz [.inl ci] (m_zap Mz 0)) H1 → W p G.1 e room_1 s m #[Value.ref b] below meth c H1 locs (cells + 1) (slots + n) Q (F0 m (pc + 3) ls (.ref bz :: st))) : W p G.1 e room_1 s m #[Value.ref b] below meth c H locs cells slots Q (F0 m pc ls st) := by
  obtain ⟨hx, hb, hr, hml, hown, hts0, hX, hbl, hlocks, hgv⟩ := C0
  have hts : ∀ w ∈ m_tbl, w.before #[Value.ref b] s = true := fun w hw => hts0 w (List.mem_filter.mp hw).1
  have F := m_cls hq
  have hKn := hKK.1.1 ci q hq
  refine W.newcK (own := RL) hx hb hown (hts _ hw) (hts _ hw2) (hts _ hw3) rfl hd hm.1 hm.2 hKn.2.1 hz fun H1 kC hkC e1 z1 o1 => ?_
  refine kk H1 z1 o1 (fun k x hx => ?_)
  have h0 : k < 1 := by have := (n_wsg hx).2; exact this
  rw [show k = 0 by omega] at hx
  cases hx
  refine ⟨_, hq, (u_born (m_fty ci) hts F.1 hKn hkC e1 F.2.2.1).to (fun j hj => ?_)⟩
  have hj2 : j < m_nf ci := by rw [← F.2.2.2]; exact hj
  have h9 := List.all_eq_true.mp hok j (List.mem_range.mpr hj2)
  show defaultValue (m_fty ci j) = vp_V (m_fs bz (m_zap Mz 0) 0 ci) j
  simp only [vp_V, List.getD_eq_getElem?_getD, m_fs_at hj2, Option.getD_some, m_fv_zap h9]
/-- its constructor -/
theorem l_init {idx : Nat} {μ' : MT} {sh' : MS} {F : MM → Prop} (C0 : lw_At p s m meth c b L xs) (hKK : m_KK G s) (hd : decode cL_law pc = .ok (.invokespecial idx, 3)) (hk : m_LI RL idx μ' 0) (hroom : n_room room_1 μ' = true) (hs : m_Spec G μ' true [mr 0] [.inl ci] (m_zap Mz 0) (fun v s m => v = none ∧ s = sh' ∧ F m)) (hP : va_P G.2.1 vwCl (m_ws G bz [.inl ci] (m_zap Mz 0)) H) (hz : H.size = bz + 1) (hS : va_S (fun q => s.heap.size ≤ q) s.heap H locs) (hbz : s.heap.size ≤ bz) (hl : lv_has ls 18 lv) (hw : (st.map fun v => v.category).sum ≤ 8) (hcell : cells + μ'.mc ≤ 600000 ∧ slots + μ'.ms ≤ 7302250)
    (kk : ∀ (M' : MM) (H1 : Heap) (locs1 : List Loc), F M' → va_P G.2.1 vwCl (m_ws G bz sh' M') H1 → H1.size = bz + sh'.length → (∀ x, x < bz → H1[x]? = H[x]?) → va_S (fun q => s.heap.size ≤ q) s.heap H1 locs1 → W p G.1 e room_1 s m #[Value.ref b] below meth c H1 locs1 (cells + μ'.mc) (slots + μ'.ms) Q (F0 m (pc + 3) ls st)) : W p G.1 e room_1 s m #[Value.ref b] below meth c H locs cells slots Q (F0 m pc ls (.ref bz :: st)) := by
  obtain ⟨hx, hb, hr, hml, hown, hts0, hX, hbl, hlocks, hgv⟩ := C0
  obtain ⟨⟨w1, w2, w4, w5, w6, w7⟩, d1, d2, d3⟩ := hk
  have hts : ∀ w ∈ m_tbl, w.before #[Value.ref b] s = true := fun w hw => hts0 w (List.mem_filter.mp hw).1
  simp only [n_room, Bool.and_eq_true] at hroom
  have cw := cwI (R := room_1) (s := s) (args := #[Value.ref b]) (own := RL) (index := idx) (rm := μ'.rm) (ws := μ'.ws) (ws' := m_tbl) (bytes := μ'.cc) (maxL := μ'.nL) (y := μ'.y) 0 hts (m_goodIn (by
    intro w hw
    rcases List.mem_cons.mp hw with rfl | h
    · rw [w6]; exact w5
    · exact h)) (by rw [← w6]) rfl rfl (hts _ w4) (hts _ w1) (hts _ w2) w7 ⟨d1, d2, d3⟩ ⟨Nat.le_of_ble_eq_true hroom.1, Nat.le_of_ble_eq_true hroom.2⟩
  have hD : va_D (fun _ => True) (m_ws G bz [.inl ci] (m_zap Mz 0)) := n_wsD (fun _ _ => trivial)
  have hsub : ∀ q, va_A (m_ws G bz [.inl ci] (m_zap Mz 0)) H.size q → bz ≤ q := by
    rintro q (⟨k, e2, hk⟩ | hq)
    · have := (n_wsg hk).1
      simp only at this
      omega
    · omega
  have run := va_runI (As := ([] : List MV).map (m_tv bz)) (rest := st) (b := bz + 0) (c := c) (cc := cL_law) (nL := 18) (g := F0 m pc ls (.ref bz :: st)) (locs := locs) (cells := cells) (slots := slots) (below := below) (e := e) (p := p) (l := G.1) (meth := meth) ⟨hx, hb, hml, hown, hts⟩ (hs bz H.size) cw ⟨m_blind, fun U hU hW => ⟨rfl, by rw [hU], by rw [hU]; exact hP, hKK.warm hW, hD, fun _ => hz⟩⟩ rfl rfl hl.1 rfl (lv_room hw) hd hcell
  intro T hT X
  obtain ⟨v, st₀, t, T', Lc, h0', X', hLc, e1, e2, ⟨v', sh2, M', hv, hq, hP', hD', ht', hz', hk'⟩, stp⟩ := run T hT X
  cases hv
  rw [h0'] at hz' hk'
  obtain ⟨rfl, rfl, hF⟩ := hq
  have K9 := kk M' T'.heap (locs ++ Lc) hF (by rw [e1]; exact hP') (by rw [e1]; exact ht' rfl) (fun x hx => by rw [e1]; exact hk' x (by omega) (fun z => by have := hsub x z; omega)) ⟨Nat.le_trans hS.1 (by rw [e1]; exact hz'), fun q h1 h2 => by rw [e1, hk' q (Nat.lt_of_lt_of_le h1 hS.1) (fun z => h2 (Nat.le_trans hbz (hsub q z)))]; exact hS.2.1 q h1 h2, fun q hq => by
      rcases List.mem_append.mp hq with h | h
      · exact hS.2.2 q h
      · exact Nat.le_trans hbz (hsub _ (hLc q h))⟩
  obtain ⟨t2, a1, b1⟩ := K9 T' rfl X'
  exact ⟨t2, stp t2 a1, b1⟩
/-- a new array of the law -/
theorem l_na {n : Nat} {v : Int32} (C0 : lw_At p s m meth c b L xs) (hKK : m_KK G s) (hd : decode cL_law pc = .ok (.newarray .int, 2)) (hv : v.toNatClampNeg = n) (hv2 : ¬ v < 0) (hn : n ≤ 100) (hm : cells + 1 ≤ 600000 ∧ slots + n ≤ 7302250) (hz : H.size = bz)
    (kk : ∀ H1 : Heap, H1.size = bz + 1 → (∀ x, x < bz → H1[x]? = H[x]?) → va_P G.2.1 vwCl (m_ws G bz [.inr (0, n)] Mz) H1 → W p G.1 e room_1 s m #[Value.ref b] below meth c H1 locs (cells + 1) (slots + n) Q (F0 m (pc + 2) ls (.ref bz :: st))) : W p G.1 e room_1 s m #[Value.ref b] below meth c H locs cells slots Q (F0 m pc ls (.int v :: st)) := by
  obtain ⟨hx, hb, hr, hml, hown, hts0, hX, hbl, hlocks, hgv⟩ := C0
  have hts : ∀ w ∈ m_tbl, w.before #[Value.ref b] s = true := fun w hw => hts0 w (List.mem_filter.mp hw).1
  refine va_newaK (atype := .int) hx hb (hts _ waInt) rfl hd rfl hv2 hv (by simp [newarray.typeOf, componentBytes]; omega) hm.1 hm.2 hz fun H1 cA e1 z1 o1 hAr hNm => ?_
  refine kk H1 z1 o1 (fun k x hx => ?_)
  have h0 : k < 1 := by have := (n_wsg hx).2; exact this
  rw [show k = 0 by omega] at hx
  cases hx
  have hcA : some (G.2.2 0) = some cA := ((hKK.1.2 0 _ rfl).2).symm.trans hNm
  cases hcA
  show H1[bz]? = some (vp_cell (G.2.2 0) (n, .inl _))
  rw [e1, vp_cell_i]
  rfl
end
set_option maxHeartbeats 4000000 in
set_option maxRecDepth 100000 in
/-- YOUR PART: from the entry, for every script of at most 260 ints, the law comes to its end with true -/
theorem whole_start {p : Program} {e : Env} {s : State} {m : MethodId} {below : List Frame} {meth : Method} {c : Code} (l : Launch) (hflags : l.flags = flags0) {b L : Nat} {xs : Nat → Int32} (hL : L ≤ 260) (C0 : lw_At p s m meth c b L xs) : W p l e room_1 s m #[Value.ref b] below meth c s.heap [] 0 0 (lw_Z below #[Value.ref b] s) (entryFrame m ([Value.ref b] : List Value).toArray 18) := by
  obtain ⟨hx, hb, hr, hml, hown, hts, hX, hbl, hlocks, hgv⟩ := id C0
  obtain ⟨G, rfl, hKK⟩ := ld_KK l hts
  have hl := lv_entry ([.ref b]) (n := 18) (Nat.le_of_ble_eq_true rfl)
  rw [lg_entry_eq]
  generalize (lg_sl ([.ref b]) ++ List.replicate (18 - (lg_sl ([.ref b])).length) Slot.unset).toArray = ls at hl ⊢
  have hl : lv_has ls 18 [(0, .ref b)] := hl
  have hS0 : va_S (fun q : Nat => s.heap.size ≤ q) s.heap s.heap [] := va_S.rf
  refine l_new (ci := 7) (n := 19) C0 hKK dL_law_0 rfl clL_9.1 clL_9.2.1 clL_9.2.2 rfl ⟨Nat.le_of_ble_eq_true rfl, Nat.le_of_ble_eq_true rfl⟩ rfl (fun H1 z1 o1 P1 => ?_)
  have S1 : va_S (fun q : Nat => s.heap.size ≤ q) s.heap H1 [] := ⟨by omega, fun q h1 _ => o1 q h1, fun q h => by cases h⟩
  refine lv_dup hx hb dL_law_3 rfl ?_
  refine l_init C0 hKK dL_law_4 lvL_58 rfl (c_X7_init (M := m_zap Mz 0) (fun j => (m_zap_at j).1) (fun j => (m_zap_at j).2.1)) P1 z1 S1 (Nat.le_refl _) hl (Nat.le_of_ble_eq_true rfl) ⟨Nat.le_of_ble_eq_true rfl, Nat.le_of_ble_eq_true rfl⟩ (fun X H2 locs2 FX P2 z2 o2 S2 => ?_)
  refine lv_astore_n (lv' := [(1, .ref s.heap.size), (0, .ref b)]) hx hb dL_law_7 rfl hl (by decide) rfl (fun ls hl => ?_)
  refine l_new (ci := 7) (n := 19) (bz := s.heap.size + 69) C0 hKK dL_law_8 rfl clL_9.1 clL_9.2.1 clL_9.2.2 rfl ⟨Nat.le_of_ble_eq_true rfl, Nat.le_of_ble_eq_true rfl⟩ z2 (fun H3 z3 o3 P3 => ?_)
  have S3 : va_S (fun q : Nat => s.heap.size ≤ q) s.heap H3 locs2 := ⟨by omega, fun q h1 h2 => (o3 q (by omega)).trans (S2.2.1 q h1 h2), S2.2.2⟩
  refine lv_dup hx hb dL_law_11 rfl ?_
  refine l_init C0 hKK dL_law_12 lvL_58 rfl (c_X7_init (M := m_zap Mz 0) (fun j => (m_zap_at j).1) (fun j => (m_zap_at j).2.1)) P3 z3 S3 (by omega) hl (Nat.le_of_ble_eq_true rfl) ⟨Nat.le_of_ble_eq_true rfl, Nat.le_of_ble_eq_true rfl⟩ (fun Y H4 locs4 FY P4 z4 o4 S4 => ?_)
  have s1 : shX.length = 69 := rfl
  have z4 : H4.size = s.heap.size + 138 := by rw [z4, s1]
  refine lv_astore_n (lv' := [(2, .ref (s.heap.size + 69)), (1, .ref s.heap.size), (0, .ref b)]) hx hb dL_law_15 rfl hl (by decide) rfl (fun ls hl => ?_)
  refine lv_bipush (v := nI 64) hx hb dL_law_16 (by decide) ?_
  refine l_na (n := 64) C0 hKK dL_law_18 (by decide) (by decide) (by omega) ⟨Nat.le_of_ble_eq_true rfl, Nat.le_of_ble_eq_true rfl⟩ z4 (fun H5 z5 o5 P5 => ?_)
  refine lv_astore_n (lv' := [(3, .ref (s.heap.size + 138)), (2, .ref (s.heap.size + 69)), (1, .ref s.heap.size), (0, .ref b)]) hx hb dL_law_20 rfl hl (by decide) rfl (fun ls hl => ?_)
  refine lv_bipush (v := nI 64) hx hb dL_law_21 (by decide) ?_
  refine l_na (n := 64) C0 hKK dL_law_23 (by decide) (by decide) (by omega) ⟨Nat.le_of_ble_eq_true rfl, Nat.le_of_ble_eq_true rfl⟩ z5 (fun H6 z6 o6 P6 => ?_)
  refine lv_astore (lv' := [(4, .ref (s.heap.size + 139)), (3, .ref (s.heap.size + 138)), (2, .ref (s.heap.size + 69)), (1, .ref s.heap.size), (0, .ref b)]) hx hb dL_law_25 hl (by decide) rfl (fun ls hl => ?_)
  refine lv_bipush (v := nI 48) hx hb dL_law_27 (by decide) ?_
  refine l_na (n := 48) C0 hKK dL_law_29 (by decide) (by decide) (by omega) ⟨Nat.le_of_ble_eq_true rfl, Nat.le_of_ble_eq_true rfl⟩ z6 (fun H7 z7 o7 P7 => ?_)
  refine lv_astore (lv' := [(5, .ref (s.heap.size + 140)), (4, .ref (s.heap.size + 139)), (3, .ref (s.heap.size + 138)), (2, .ref (s.heap.size + 69)), (1, .ref s.heap.size), (0, .ref b)]) hx hb dL_law_31 hl (by decide) rfl (fun ls hl => ?_)
  have keep : ∀ x, x < s.heap.size + 138 → H7[x]? = H4[x]? := fun x hx => (o7 x (by omega)).trans ((o6 x (by omega)).trans (o5 x hx))
  have Q0 : va_P G.2.1 vwCl (m_ws G s.heap.size shX X) H7 := by
    intro k x hx
    obtain ⟨l1, l2⟩ := n_wsg hx
    refine (P2 k x hx).kept ?_
    rw [keep x.1 (by omega), o4 x.1 (by omega), o3 x.1 (by omega)]
  have Q1 : va_P G.2.1 vwCl (m_ws G (s.heap.size + 69) shX Y) H7 := by
    intro k x hx
    obtain ⟨l1, l2⟩ := n_wsg hx
    exact (P4 k x hx).kept (keep x.1 (by omega))
  have Q2 : va_P G.2.1 vwCl (m_ws G (s.heap.size + 138) [.inr (0, 64)] Mz) H7 := by
    intro k x hx
    obtain ⟨l1, l2⟩ := n_wsg hx
    have l2 : k < 1 := l2
    exact (P5 k x hx).kept ((o7 x.1 (by omega)).trans (o6 x.1 (by omega)))
  have Q3 : va_P G.2.1 vwCl (m_ws G (s.heap.size + 139) [.inr (0, 64)] Mz) H7 := by
    intro k x hx
    obtain ⟨l1, l2⟩ := n_wsg hx
    have l2 : k < 1 := l2
    exact (P6 k x hx).kept (o7 x.1 (by omega))
  refine W.widen (k := 600000) (n := 7302250) (Nat.le_of_ble_eq_true rfl) (Nat.le_of_ble_eq_true rfl) ?_
  have hts2 : ∀ w ∈ m_tbl, w.before #[Value.ref b] s = true := fun w hw => hts w (List.mem_filter.mp hw).1
  have run := lw_33 (G := G) (a := b) (L := L) (xs := xs) (N := fun j => match j with | 0 => X | 1 => Y | _ => Mz) hL hbl ⟨rfl, rfl, rfl, rfl⟩ (M := M00) (Nn := N00) (M' := M00) (Nn' := N00) (cr_0 FX) (cr_0 FY)
  refine run p e s m #[Value.ref b] below meth c H7 locs4 0 (fun q => s.heap.size ≤ q) ls ⟨hx, hb, hml, hr, hlocks, hown, hts2, trivial, hKK⟩ ?_ ⟨?_, ?_⟩ ⟨by omega, fun q h1 h2 => by rw [keep q (by omega)]; exact S4.2.1 q h1 h2, S4.2.2⟩ (fun q h => h) (fun q h => h) ?_
  · intro i q hi
    rcases i with _ | _ | _ | _ | _ | i
    · cases hi
      show va_P _ _ (m_ws G (0 + s.heap.size) shX X) H7
      rw [Nat.zero_add]
      exact Q0
    · cases hi
      show va_P _ _ (m_ws G (0 + (s.heap.size + 69)) shX Y) H7
      rw [Nat.zero_add]
      exact Q1
    · cases hi
      show va_P _ _ (m_ws G (0 + (s.heap.size + 138)) [.inr (0, 64)] Mz) H7
      rw [Nat.zero_add]
      exact Q2
    · cases hi
      show va_P _ _ (m_ws G (0 + (s.heap.size + 139)) [.inr (0, 64)] Mz) H7
      rw [Nat.zero_add]
      exact Q3
    · cases hi
      show va_P _ _ (m_ws G (0 + (s.heap.size + 140)) [.inr (0, 48)] Mz) H7
      rw [Nat.zero_add]
      exact P7
    · cases hi
  · intro i q hi k hk
    rcases i with _ | _ | _ | _ | _ | i
    · cases hi
      show s.heap.size ≤ 0 + s.heap.size + k
      omega
    · cases hi
      show s.heap.size ≤ 0 + (s.heap.size + 69) + k
      omega
    · cases hi
      show s.heap.size ≤ 0 + (s.heap.size + 138) + k
      omega
    · cases hi
      show s.heap.size ≤ 0 + (s.heap.size + 139) + k
      omega
    · cases hi
      show s.heap.size ≤ 0 + (s.heap.size + 140) + k
      omega
    · cases hi
  · show va_X (0 + b) L xs s s.heap ∧ 0 + b < s.heap.size ∧ ¬ s.heap.size ≤ 0 + b
    rw [Nat.zero_add]
    exact ⟨hX, hbl, Nat.not_le.mpr hbl⟩
  · show lv_has ls 18 [(0, .ref (0 + b)), (1, .ref (0 + s.heap.size)), (2, .ref (0 + (s.heap.size + 69))), (3, .ref (0 + (s.heap.size + 138))), (4, .ref (0 + (s.heap.size + 139))), (5, .ref (0 + (s.heap.size + 140)))]
    simp only [Nat.zero_add]
    exact lv_sub hl [5, 4, 3, 2, 1, 0] rfl

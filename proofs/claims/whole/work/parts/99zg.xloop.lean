/-! THE LAW: how it begins; its loop; the claim. -/
/-- at first class and reference hold the same -/
theorem cr_0 {I K : MI} {R R2 : MR} {M N : MI} (hX : X0I I K R) (hM : M0I M N R2) : CR I K R M N := by
  obtain ⟨x1, ⟨x2, x3⟩, x4, ⟨x5, x6⟩, ⟨x7, x8, x9, x10, x11⟩, x12, x13, x14, ⟨x15, x16, x17, x18⟩, x19, x20, x21, x22⟩ := hX
  obtain ⟨m1, ⟨m2, m3, m4, m5, m6, m7, m8⟩, m9, m10, m11, m12, m13, m14, m15, m16⟩ := hM
  have jr : iRows M := ⟨fun r h1 h2 => by rw [m10 r h1 h2]; omega, fun k _ _ => by rw [m11]; omega⟩
  have jt : iTexts M := ⟨fun t h1 h2 => by rw [m12 t h1 h2]; omega, fun k _ _ => by rw [m13]; omega⟩
  have jh : iHs M := ⟨by omega, by omega, by omega, by omega, fun d h1 h2 => by omega, fun w h1 h2 => by omega⟩
  have je : iEvs M := ⟨by omega, fun e he => by omega⟩
  have jl : iEvL M := fun e h1 h2 => by omega
  have hr : HRL I M 32 := by
    refine ⟨⟨by omega, by omega, by omega, by omega, ?_⟩, fun d hd => by omega, fun w hw => by omega⟩
    rw [m5, x11]
    rfl
  have nr : NRL I M 58 := ⟨by omega, fun e he => by omega⟩
  refine ⟨32, 37, ⟨x1, ⟨x2, x3, Or.inl ⟨rfl, rfl⟩⟩, ⟨29, 30, 31, x4⟩, ⟨by rw [x5]; omega, by rw [x6]; omega⟩, ⟨jh, je, jl, jr, jt⟩, hr, nr, fun r h => ?_, fun t h => ?_, ⟨by omega, by omega, fun f h => ?_⟩, by rw [x20, m14], by rw [x21, m15], by rw [x22, m16]⟩, ⟨⟨Or.inl x15, Or.inl x16⟩, fun q => by omega⟩⟩
  · have a := x13 r h
    have b := m10 (r : Int) (by omega) (by omega)
    exact ⟨by rw [a.1, b], fun i _ _ => by rw [a.2]; omega, fun i h1 h2 => by omega⟩
  · have a := x14 t h
    have b := m12 (t : Int) (by omega) (by omega)
    exact ⟨by rw [a.1, b], fun i _ _ => by rw [a.2]; omega, fun i h1 h2 => by omega⟩
  · rw [x19 f h, m9]
/-- the reference's references are what they are -/
theorem m_fv_rf {b a k : Nat} {M N : MI} {R R' : MR} {ty : FieldType} (h : m_isR ty = true → R a (k : Int) = R' a (k : Int)) : m_fv b (M, N, R) a ty k = m_fv b (M, N, R') a ty k := by
  cases ty with
  | object C => show va_rf ((R a (k : Int)).map (b + ·)) = va_rf ((R' a (k : Int)).map (b + ·)); rw [h rfl]
  | array t => show va_rf ((R a (k : Int)).map (b + ·)) = va_rf ((R' a (k : Int)).map (b + ·)); rw [h rfl]
  | _ => rfl
theorem shM_no {a : Nat} {d : Nat ⊕ (Nat × Nat)} (h : shM[a]? = some d) : (a = 0 ∧ d = .inl 8) ∨ ∃ k n, d = .inr (k, n) ∧ k < 3 := by
  cases a with
  | zero => cases h; exact Or.inl ⟨rfl, rfl⟩
  | succ a =>
    have h2 : shM.tail[a]? = some d := h
    have h3 := List.mem_of_getElem? h2
    have h4 : ∀ x ∈ shM.tail, ∃ k n, x = .inr (k, n) ∧ k < 3 := by
      intro x hx
      simp only [shM, List.tail_cons, List.mem_cons, List.not_mem_nil, or_false] at hx
      rcases hx with rfl | rfl | rfl | rfl | rfl | rfl | rfl | rfl | rfl | rfl | rfl | rfl | rfl | rfl | rfl | rfl | rfl | rfl | rfl | rfl | rfl | rfl | rfl | rfl | rfl | rfl
      all_goals exact ⟨_, _, rfl, by decide⟩
    exact Or.inr (h4 d h3)
theorem ws_rM {G : GT} {b : Nat} {M N : MI} {R : MR} (h : ∀ k : Nat, k < 59 → m_isR (tyX8 k) = true → R 0 (k : Int) = rM 0 (k : Int)) : m_ws G b shM (M, N, R) = m_ws G b shM (M, N, rM) := by
  apply List.ext_getElem?
  intro a
  cases hd : shM[a]? with
  | none => simp [m_ws, hd]
  | some d =>
    rw [m_ws_at hd, m_ws_at hd]
    rcases shM_no hd with ⟨rfl, rfl⟩ | ⟨k, n, rfl, hk⟩
    · have e : m_fs b (M, N, R) 0 8 = m_fs b (M, N, rM) 0 8 := by
        unfold m_fs
        refine List.map_congr_left (fun k hk => m_fv_rf (fun q => h k (List.mem_range.mp hk) q))
      show some (b + 0, (Sum.inr (8, m_fs b (M, N, R) 0 8) : va_E)) = some (b + 0, (Sum.inr (8, m_fs b (M, N, rM) 0 8) : va_E))
      rw [e]
    · match k, hk with
      | 0, _ => rfl
      | 1, _ => rfl
      | 2, _ => rfl
def Mz : MM := (fun _ _ => 0, fun _ _ => 0, fun _ _ => none)
/-- classes and array classes, as the tables have them -/
theorem ld_KK (l : Launch) {s : State} {args : Array Value} (hts : ∀ w ∈ lw_tbl, w.before args s = true) : ∃ G : GT, G.1 = l ∧ m_KK G s := by
  have htm : ∀ w ∈ m_tbl, w.before args s = true := fun w hw => hts w (List.mem_filter.mp hw).1
  have inst : ∀ (k : Nat) (q : vw_C), vwCl[k]? = some q → Cond.instantiable q.1 q.2.2 ∈ m_tbl := fun k q h => by
    match k, h with
    | 0, h => cases h; exact clX7_35.2.1
    | 1, h => cases h; exact clX6_9.2.1
    | 2, h => cases h; exact clX7_57.2.1
    | 3, h => cases h; exact clX7_45.2.1
    | 4, h => cases h; exact clX7_21.2.1
    | 5, h => cases h; exact clX7_9.2.1
    | 6, h => cases h; exact clX7_28.2.1
    | 7, h => cases h; exact clL_7.2.1
    | 8, h => cases h; exact clL_10.2.1
    | k + 9, h => simp [vwCl] at h
  have kn : ∀ k : Nat, ∃ (cC : ClassId) (iS : Nat → Nat), ∀ q, vwCl[k]? = some q → u_Kn s q.1 q.2.1 q.2.2 cC iS := by
    intro k
    cases h : vwCl[k]? with
    | none => exact ⟨0, fun _ => 0, fun q hq => by cases hq⟩
    | some q =>
      obtain ⟨cC, iS, h2⟩ := u_known (C := q.1) (T := q.2.1) (N := q.2.2) (n := q.2.2) htm (m_cls h).1 (htm _ (inst k q h))
      exact ⟨cC, iS, fun q' hq' => by cases hq'; exact h2⟩
  have ar : ∀ ty, (Cond.arrayClass ty).before args s = true → ∃ cA, ArrOfT s cA ty ∧ s.vm.findClass ("[" ++ ty.toString) = some cA := fun ty h => by
    obtain ⟨cA, kA, comp, h1, h2, h3⟩ := Cond.arrayClass_spec h
    exact ⟨cA, fun n z => ⟨fun k h => (by cases h), kA, h2, comp, h3⟩, h1⟩
  obtain ⟨a0, b0, f0⟩ := ar .int (htm _ waInt)
  obtain ⟨a1, b1, f1⟩ := ar .long (htm _ waLong)
  obtain ⟨a2, b2, f2⟩ := ar .byte (htm _ waByte)
  have ov : (Cond.arrayOver (.array .int)).before args s = true := hts _ (by decide +kernel)
  obtain ⟨comp, a3, k3, -, -, h1, h2, f3⟩ := arrayOverA_spec ov
  refine ⟨(l, (fun k => (kn k).choose, fun k => (kn k).choose_spec.choose), fun k => if k = 0 then a0 else if k = 1 then a1 else if k = 2 then a2 else a3), rfl, ⟨fun k q h => (kn k).choose_spec.choose_spec q h, fun k q h => ?_⟩, fun q hq => ?_, over_moved (Vm.Alike.refl _) ov⟩
  · match k, h with
    | 0, h => cases h; exact ⟨b0, f0⟩
    | 1, h => cases h; exact ⟨b1, f1⟩
    | 2, h => cases h; exact ⟨b2, f2⟩
    | 3, h => cases h; exact ⟨fun n z => ⟨fun k h => (by cases h), k3, h1, comp, h2⟩, f3⟩
    | k + 4, h => simp [m_tys] at h
  · simp only [m_nests, List.mem_cons, List.not_mem_nil, or_false] at hq
    rcases hq with rfl | rfl | rfl | rfl | rfl
    · exact va_Nw.of rfl (hts _ (by decide +kernel))
    · exact va_Nw.of rfl (hts _ (by decide +kernel))
    · exact va_Nw.of rfl (hts _ (by decide +kernel))
    · exact va_Nw.of rfl (hts _ (by decide +kernel))
    · exact va_Nw.of rfl (hts _ (by decide +kernel))
section
variable {G : GT} {p : Program} {e : Env} {s : State} {m : MethodId} {below : List Frame} {meth : Method} {c : Code} {b L : Nat} {xs : Nat → Int32} {cells slots pc bz ci : Nat} {H : Heap} {locs : List Loc} {ls : Array Slot} {lv : List (Nat × Value)} {st : List Value} {Q : State → Prop}
/-- a new object of the law -/
theorem l_new {idx n : Nat} {q : vw_C} (C0 : lw_At p s m meth c b L xs) (hKK : m_KK G s) (hd : decode cL_law pc = .ok (.new idx, 3)) (hq : vwCl[ci]? = some q) (hw : Cond.classLink RL idx q.1 ∈ m_tbl) (hw2 : Cond.instantiable q.1 n ∈ m_tbl) (hw3 : Cond.initialized q.1 ∈ m_tbl) (hok : (List.range (m_nf ci)).all (fun k => m_okT (m_fty ci k)) = true) (hm : cells + 1 ≤ 600000 ∧ slots + n ≤ 7302250) (hz : H.size = bz)
    (kk : ∀ H1 : Heap, H1.size = bz + 1 → (∀ x, x < bz → H1[x]? = H[x]?) → va_P G.2.1 vwCl (m_ws G bz [.inl ci] (m_zap Mz 0)) H1 → W p G.1 e room_1 s m #[Value.ref b] below meth c H1 locs (cells + 1) (slots + n) Q (F0 m (pc + 3) ls (.ref bz :: st))) : W p G.1 e room_1 s m #[Value.ref b] below meth c H locs cells slots Q (F0 m pc ls st) := by
  obtain ⟨hx, hb, hr, hml, hown, hts0, hX, hbl, hlocks, hgv⟩ := C0
  have hts : ∀ w ∈ m_tbl, w.before #[Value.ref b] s = true := fun w hw => hts0 w (List.mem_filter.mp hw).1
  have F := m_cls hq
  have hKn := hKK.1.1 ci q hq
  refine W.newcK (own := RL) hx hb hown (hts _ hw) (hts _ hw2) (hts _ hw3) rfl hd hm.1 hm.2 hKn.2.1 hz fun H1 kC hkC e1 z1 o1 => ?_
  refine kk H1 z1 o1 (fun k x hx => ?_)
  have h0 : k < 1 := by have := (m_ws_get hx).2; exact this
  rw [show k = 0 by omega] at hx
  cases hx
  refine ⟨_, hq, (u_born (m_fty ci) hts F.1 hKn hkC e1 F.2.2.1).to (fun j hj => ?_)⟩
  have hj2 : j < m_nf ci := by rw [← F.2.2.2]; exact hj
  have h9 := List.all_eq_true.mp hok j (List.mem_range.mpr hj2)
  show defaultValue (m_fty ci j) = vp_V (m_fs bz (m_zap Mz 0) 0 ci) j
  simp only [vp_V, List.getD_eq_getElem?_getD, m_fs_at hj2, Option.getD_some, m_fv_zap h9]
/-- its constructor -/
theorem l_init {idx : Nat} {μ' : MT} {sh' : MS} {F : MM → Prop} (C0 : lw_At p s m meth c b L xs) (hKK : m_KK G s) (hd : decode cL_law pc = .ok (.invokespecial idx, 3)) (hk : m_LI RL idx μ' 0) (hroom : (Nat.ble (μ'.fr + 1) 12 && Nat.ble (8 + (μ'.nL + 11) + μ'.lo) 458) = true) (hs : m_Spec G μ' true [mr 0] [.inl ci] (m_zap Mz 0) (fun v s m => v = none ∧ s = sh' ∧ F m)) (hP : va_P G.2.1 vwCl (m_ws G bz [.inl ci] (m_zap Mz 0)) H) (hz : H.size = bz + 1) (hS : va_S (fun q => s.heap.size ≤ q) s.heap H locs) (hbz : s.heap.size ≤ bz) (hl : lv_has ls 4 lv) (hw : (st.map fun v => v.category).sum ≤ 8) (hcell : cells + μ'.mc ≤ 600000 ∧ slots + μ'.ms ≤ 7302250)
    (kk : ∀ (M' : MM) (H1 : Heap) (locs1 : List Loc), F M' → va_P G.2.1 vwCl (m_ws G bz sh' M') H1 → H1.size = bz + sh'.length → (∀ x, x < bz → H1[x]? = H[x]?) → va_S (fun q => s.heap.size ≤ q) s.heap H1 locs1 → W p G.1 e room_1 s m #[Value.ref b] below meth c H1 locs1 (cells + μ'.mc) (slots + μ'.ms) Q (F0 m (pc + 3) ls st)) : W p G.1 e room_1 s m #[Value.ref b] below meth c H locs cells slots Q (F0 m pc ls (.ref bz :: st)) := by
  obtain ⟨hx, hb, hr, hml, hown, hts0, hX, hbl, hlocks, hgv⟩ := C0
  obtain ⟨⟨w1, w2, w4, w5, w6, w7⟩, d1, d2, d3⟩ := hk
  have hts : ∀ w ∈ m_tbl, w.before #[Value.ref b] s = true := fun w hw => hts0 w (List.mem_filter.mp hw).1
  simp only [Bool.and_eq_true] at hroom
  have cw := cwI (R := room_1) (s := s) (args := #[Value.ref b]) (own := RL) (index := idx) (rm := μ'.rm) (ws := μ'.ws) (ws' := m_tbl) (bytes := μ'.cc) (maxL := μ'.nL) (y := μ'.y) 0 hts (m_goodIn (by
    intro w hw
    rcases List.mem_cons.mp hw with rfl | h
    · rw [w6]; exact w5
    · exact h)) (by rw [← w6]) rfl rfl (hts _ w4) (hts _ w1) (hts _ w2) w7 ⟨d1, d2, d3⟩ ⟨Nat.le_of_ble_eq_true hroom.1, Nat.le_of_ble_eq_true hroom.2⟩
  have hD : va_D (fun _ => True) (m_ws G bz [.inl ci] (m_zap Mz 0)) := m_ws_D (fun _ _ => trivial)
  have hsub : ∀ q, va_A (m_ws G bz [.inl ci] (m_zap Mz 0)) H.size q → bz ≤ q := by
    rintro q (⟨k, e2, hk⟩ | hq)
    · have := (m_ws_get hk).1
      simp only at this
      omega
    · omega
  have run := va_runI (As := ([] : List MV).map (m_tv bz)) (rest := st) (b := bz + 0) (c := c) (cc := cL_law) (nL := 4) (g := F0 m pc ls (.ref bz :: st)) (locs := locs) (cells := cells) (slots := slots) (below := below) (e := e) (p := p) (l := G.1) (meth := meth) ⟨hx, hb, hml, hown, hts⟩ (hs bz H.size) cw ⟨m_blind, fun U hU hW => ⟨rfl, by rw [hU], by rw [hU]; exact hP, hKK.warm hW, hD, fun _ => hz⟩⟩ rfl rfl hl.1 rfl (lv_room hw) hd hcell
  intro T hT X
  obtain ⟨v, st₀, t, T', Lc, h0', X', hLc, e1, e2, ⟨v', sh2, M', hv, hq, hP', hD', ht', hz', hk'⟩, stp⟩ := run T hT X
  cases hv
  rw [h0'] at hz' hk'
  obtain ⟨rfl, rfl, hF⟩ := hq
  have K9 := kk M' T'.heap (locs ++ Lc) hF (by rw [e1]; exact hP') (by rw [e1]; exact ht' rfl) (fun x hx => by rw [e1]; exact hk' x (by omega) (fun z => by have := hsub x z; omega)) ⟨Nat.le_trans hS.1 (by rw [e1]; exact hz'), fun q h1 h2 => by rw [e1, hk' q (Nat.lt_of_lt_of_le h1 hS.1) (fun z => h2 (Nat.le_trans hbz (hsub q z)))]; exact hS.2.1 q h1 h2, fun q hq => by
      rcases List.mem_append.mp hq with h | h
      · exact hS.2.2 q h
      · exact Nat.le_trans hbz (hsub _ (hLc q h))⟩
  obtain ⟨t2, a1, b1⟩ := K9 T' rfl X'
  exact ⟨t2, stp t2 a1, b1⟩
end
section
variable {G : GT} {p : Program} {e : Env} {s : State} {m : MethodId} {below : List Frame} {meth : Method} {c : Code} {b L : Nat} {xs : Nat → Int32} {bx bm : Nat}
set_option maxRecDepth 20000 in
/-- THE LAW'S LOOP -/
theorem law_loop (hC : LC G p s m meth c b L xs bx bm) (hL : L ≤ 3072) : ∀ (f n : Nat), n ≤ L → L + 1 ≤ n + f → ∀ I K R M N, CR I K R M N → LW G p e s m below meth c b bx bm (nI n) 18 [] I K R M N := by
  intro f
  induction f with
  | zero => intro n h1 h2; exact absurd h2 (by omega)
  | succ f ih =>
    intro n h1 h2 I K R M N cr
    have nxt : n + 5 < L → ∀ I' K' R' M' N', CR I' K' R' M' N' → LW G p e s m below meth c b bx bm (nI n) 1463 [] I' K' R' M' N' := by
      intro hn I' K' R' M' N' cr' H locs ls a1 a2 a3 hl
      have hx := hC.1.1
      have hb := hC.1.2.1
      refine lv_iinc (v := nI (n + 6)) (lv' := [(3, .int (nI (n + 6))), (0, .ref b), (1, .ref bx), (2, .ref bm)]) hx hb dL_law_1463 hl (k := 3) rfl (by rw [show Int32.ofInt 6 = nI 6 by decide, nI_add]) (by decide) rfl (fun ls hl => ?_)
      refine lv_goto (tgt := 18) hx hb dL_law_1466 (by decide) ?_
      exact ih (n + 6) (by omega) (by omega) I' K' R' M' N' cr' H locs ls a1 a2 a3 (lv_sub hl [1, 2, 3, 0] rfl)
    intro H locs ls a1 a2 a3 hl
    obtain ⟨⟨hx, hb, hr, hml, hown, hts, hX, hbl, hlocks, hgv⟩, hKK, hbx, hbm⟩ := id hC
    have hbA : ¬ (fun q : Nat => s.heap.size ≤ q) b := Nat.not_le.mpr hbl
    refine lv_iload_n hx hb dL_law_18 rfl (lv_at hl 3 rfl) ?_
    refine lv_aload_n hx hb dL_law_19 rfl (lv_at hl 0 rfl) ?_
    refine va_slen hx hb hX hbl hbA a3 dL_law_20 ?_
    refine lv_bipush (v := 6) hx hb dL_law_21 (by decide) ?_
    refine lv_isub hx hb dL_law_23 ?_
    have e6 : (Int32.ofNat L - 6).toInt = (L : Int) - 6 := by
      have e1 : Int32.ofNat L = Int32.ofInt (L : Int) := by
        apply Int32.toInt_inj.mp
        rw [z_t (by omega)]
        exact nI_toInt (by omega)
      rw [e1, show (6 : Int32) = Int32.ofInt 6 by decide, ← Int32.ofInt_sub, z_t (by omega)]
    have en : (nI n).toInt = (n : Int) := nI_toInt (by omega)
    refine lv_icmp_gt (tgt := 1469) hx hb dL_law_24 (by decide) (fun q => ?_) (fun q => ?_)
    · refine lv_iconst (v := 1) hx hb dL_law_1469 (by decide) ?_
      refine va_forget (fun q hq => a3.2.2 q hq) ?_
      exact lw_ret hx hb hr hlocks dL_law_1470
    · have hn : n + 5 < L := by
        rw [Int32.lt_iff_toInt_lt, e6, en] at q
        omega
      refine lv_aload_n hx hb dL_law_27 rfl (lv_at hl 0 rfl) ?_
      refine lv_iload_n hx hb dL_law_28 rfl (lv_at hl 3 rfl) ?_
      refine va_sld hx hb hX hbl hbA a3 (vp_in_nI (show n < L by omega) (by omega)) dL_law_29 ?_
      refine lv_bipush (v := 63) hx hb dL_law_30 (by decide) ?_
      refine lv_iand hx hb dL_law_32 ?_
      generalize xs (nI n).toNatClampNeg &&& 63 = y
      have cs : y.toInt = 0 ∨ y.toInt = 1 ∨ y.toInt = 2 ∨ y.toInt = 3 ∨ y.toInt = 4 ∨ y.toInt = 5 ∨ y.toInt = 6 ∨ y.toInt = 7 ∨ y.toInt = 8 ∨ y.toInt = 9 ∨ y.toInt = 10 ∨ y.toInt = 11 ∨ y.toInt = 12 ∨ y.toInt = 13 ∨ y.toInt = 14 ∨ y.toInt = 15 ∨ y.toInt = 16 ∨ y.toInt = 17 ∨ y.toInt = 18 ∨ y.toInt = 19 ∨ y.toInt = 20 ∨ y.toInt = 21 ∨ y.toInt = 22 ∨ y.toInt = 23 ∨ y.toInt = 24 ∨ y.toInt = 25 ∨ y.toInt = 26 ∨ y.toInt = 27 ∨ y.toInt = 28 ∨ y.toInt = 29 ∨ y.toInt = 30 ∨ y.toInt = 31 ∨ y.toInt = 32 ∨ y.toInt = 33 ∨ y.toInt = 34 ∨ y.toInt = 35 ∨ y.toInt = 36 ∨ y.toInt = 37 ∨ y.toInt = 38 ∨ y.toInt = 39 ∨ y.toInt = 40 ∨ y.toInt = 41 ∨ y.toInt = 42 ∨ y.toInt = 43 ∨ y.toInt = 44 ∨ (y.toInt < 0 ∨ 44 < y.toInt) := by omega
      rcases cs with q9 | q9 | q9 | q9 | q9 | q9 | q9 | q9 | q9 | q9 | q9 | q9 | q9 | q9 | q9 | q9 | q9 | q9 | q9 | q9 | q9 | q9 | q9 | q9 | q9 | q9 | q9 | q9 | q9 | q9 | q9 | q9 | q9 | q9 | q9 | q9 | q9 | q9 | q9 | q9 | q9 | q9 | q9 | q9 | q9 | q9
      · exact lv_tableIn (off := 195) (tgt := 228) hx hb dL_law_33 (by omega) (by omega) (by rw [q9]; rfl) (by decide) (k_row hC ⟨hn, hL⟩ cr (nxt hn) H locs ls a1 a2 a3 hl)
      · exact lv_tableIn (off := 228) (tgt := 261) hx hb dL_law_33 (by omega) (by omega) (by rw [q9]; rfl) (by decide) (k_lay hC ⟨hn, hL⟩ cr (nxt hn) H locs ls a1 a2 a3 hl)
      · exact lv_tableIn (off := 271) (tgt := 304) hx hb dL_law_33 (by omega) (by omega) (by rw [q9]; rfl) (by decide) (k_at hC ⟨hn, hL⟩ cr (nxt hn) H locs ls a1 a2 a3 hl)
      · exact lv_tableIn (off := 304) (tgt := 337) hx hb dL_law_33 (by omega) (by omega) (by rw [q9]; rfl) (by decide) (k_tear hC ⟨hn, hL⟩ cr (nxt hn) H locs ls a1 a2 a3 hl)
      · exact lv_tableIn (off := 327) (tgt := 360) hx hb dL_law_33 (by omega) (by omega) (by rw [q9]; rfl) (by decide) (k_copy hC ⟨hn, hL⟩ cr (nxt hn) H locs ls a1 a2 a3 hl)
      · exact lv_tableIn (off := 390) (tgt := 423) hx hb dL_law_33 (by omega) (by omega) (by rw [q9]; rfl) (by decide) (k_mean hC ⟨hn, hL⟩ cr (nxt hn) H locs ls a1 a2 a3 hl)
      · exact lv_tableIn (off := 413) (tgt := 446) hx hb dL_law_33 (by omega) (by omega) (by rw [q9]; rfl) (by decide) (k_text hC ⟨hn, hL⟩ cr (nxt hn) H locs ls a1 a2 a3 hl)
      · exact lv_tableIn (off := 446) (tgt := 479) hx hb dL_law_33 (by omega) (by omega) (by rw [q9]; rfl) (by decide) (k_put hC ⟨hn, hL⟩ cr (nxt hn) H locs ls a1 a2 a3 hl)
      · exact lv_tableIn (off := 489) (tgt := 522) hx hb dL_law_33 (by omega) (by omega) (by rw [q9]; rfl) (by decide) (k_fault hC ⟨hn, hL⟩ cr (nxt hn) H locs ls a1 a2 a3 hl)
      · exact lv_tableIn (off := 538) (tgt := 571) hx hb dL_law_33 (by omega) (by omega) (by rw [q9]; rfl) (by decide) (k_house hC ⟨hn, hL⟩ cr (nxt hn) H locs ls a1 a2 a3 hl)
      · exact lv_tableIn (off := 561) (tgt := 594) hx hb dL_law_33 (by omega) (by omega) (by rw [q9]; rfl) (by decide) (k_night hC ⟨hn, hL⟩ cr (nxt hn) H locs ls a1 a2 a3 hl)
      · exact lv_tableIn (off := 584) (tgt := 617) hx hb dL_law_33 (by omega) (by omega) (by rw [q9]; rfl) (by decide) (k_event hC ⟨hn, hL⟩ cr (nxt hn) H locs ls a1 a2 a3 hl)
      · exact lv_tableIn (off := 637) (tgt := 670) hx hb dL_law_33 (by omega) (by omega) (by rw [q9]; rfl) (by decide) (k_back hC ⟨hn, hL⟩ cr (nxt hn) H locs ls a1 a2 a3 hl)
      · exact lv_tableIn (off := 660) (tgt := 693) hx hb dL_law_33 (by omega) (by omega) (by rw [q9]; rfl) (by decide) (k_told hC ⟨hn, hL⟩ cr (nxt hn) H locs ls a1 a2 a3 hl)
      · exact lv_tableIn (off := 693) (tgt := 726) hx hb dL_law_33 (by omega) (by omega) (by rw [q9]; rfl) (by decide) (k_mark hC ⟨hn, hL⟩ cr (nxt hn) H locs ls a1 a2 a3 hl)
      · exact lv_tableIn (off := 726) (tgt := 759) hx hb dL_law_33 (by omega) (by omega) (by rw [q9]; rfl) (by decide) (k_door hC ⟨hn, hL⟩ cr (nxt hn) H locs ls a1 a2 a3 hl)
      · exact lv_tableIn (off := 759) (tgt := 792) hx hb dL_law_33 (by omega) (by omega) (by rw [q9]; rfl) (by decide) (k_walker hC ⟨hn, hL⟩ cr (nxt hn) H locs ls a1 a2 a3 hl)
      · exact lv_tableIn (off := 792) (tgt := 825) hx hb dL_law_33 (by omega) (by omega) (by rw [q9]; rfl) (by decide) (k_could hC ⟨hn, hL⟩ cr (nxt hn) H locs ls a1 a2 a3 hl)
      · exact lv_tableIn (off := 805) (tgt := 838) hx hb dL_law_33 (by omega) (by omega) (by rw [q9]; rfl) (by decide) (k_fewest hC ⟨hn, hL⟩ cr (nxt hn) H locs ls a1 a2 a3 hl)
      · exact lv_tableIn (off := 818) (tgt := 851) hx hb dL_law_33 (by omega) (by omega) (by rw [q9]; rfl) (by decide) (k_ways hC ⟨hn, hL⟩ cr (nxt hn) H locs ls a1 a2 a3 hl)
      · exact lv_tableIn (off := 831) (tgt := 864) hx hb dL_law_33 (by omega) (by omega) (by rw [q9]; rfl) (by decide) (k_rooms hC ⟨hn, hL⟩ cr (nxt hn) H locs ls a1 a2 a3 hl)
      · exact lv_tableIn (off := 864) (tgt := 897) hx hb dL_law_33 (by omega) (by omega) (by rw [q9]; rfl) (by decide) (k_empty hC ⟨hn, hL⟩ cr (nxt hn) H locs ls a1 a2 a3 hl)
      · exact lv_tableIn (off := 887) (tgt := 920) hx hb dL_law_33 (by omega) (by omega) (by rw [q9]; rfl) (by decide) (k_where hC ⟨hn, hL⟩ cr (nxt hn) H locs ls a1 a2 a3 hl)
      · exact lv_tableIn (off := 920) (tgt := 953) hx hb dL_law_33 (by omega) (by omega) (by rw [q9]; rfl) (by decide) (k_met hC ⟨hn, hL⟩ cr (nxt hn) H locs ls a1 a2 a3 hl)
      · exact lv_tableIn (off := 953) (tgt := 986) hx hb dL_law_33 (by omega) (by omega) (by rw [q9]; rfl) (by decide) (k_still hC ⟨hn, hL⟩ cr (nxt hn) H locs ls a1 a2 a3 hl)
      · exact lv_tableIn (off := 986) (tgt := 1019) hx hb dL_law_33 (by omega) (by omega) (by rw [q9]; rfl) (by decide) (k_judge hC ⟨hn, hL⟩ cr (nxt hn) H locs ls a1 a2 a3 hl)
      · exact lv_tableIn (off := 1019) (tgt := 1052) hx hb dL_law_33 (by omega) (by omega) (by rw [q9]; rfl) (by decide) (k_way hC ⟨hn, hL⟩ cr (nxt hn) H locs ls a1 a2 a3 hl)
      · exact lv_tableIn (off := 1052) (tgt := 1085) hx hb dL_law_33 (by omega) (by omega) (by rw [q9]; rfl) (by decide) (k_whose hC ⟨hn, hL⟩ cr (nxt hn) H locs ls a1 a2 a3 hl)
      · exact lv_tableIn (off := 1075) (tgt := 1108) hx hb dL_law_33 (by omega) (by omega) (by rw [q9]; rfl) (by decide) (k_same hC ⟨hn, hL⟩ cr (nxt hn) H locs ls a1 a2 a3 hl)
      · exact lv_tableIn (off := 1098) (tgt := 1131) hx hb dL_law_33 (by omega) (by omega) (by rw [q9]; rfl) (by decide) (k_passes hC ⟨hn, hL⟩ cr (nxt hn) H locs ls a1 a2 a3 hl)
      · exact lv_tableIn (off := 1121) (tgt := 1154) hx hb dL_law_33 (by omega) (by omega) (by rw [q9]; rfl) (by decide) (k_third hC ⟨hn, hL⟩ cr (nxt hn) H locs ls a1 a2 a3 hl)
      · exact lv_tableIn (off := 1134) (tgt := 1167) hx hb dL_law_33 (by omega) (by omega) (by rw [q9]; rfl) (by decide) (k_chance hC ⟨hn, hL⟩ cr (nxt hn) H locs ls a1 a2 a3 hl)
      · exact lv_tableIn (off := 1167) (tgt := 1200) hx hb dL_law_33 (by omega) (by omega) (by rw [q9]; rfl) (by decide) (k_likely hC ⟨hn, hL⟩ cr (nxt hn) H locs ls a1 a2 a3 hl)
      · exact lv_tableIn (off := 1200) (tgt := 1233) hx hb dL_law_33 (by omega) (by omega) (by rw [q9]; rfl) (by decide) (k_cheapest hC ⟨hn, hL⟩ cr (nxt hn) H locs ls a1 a2 a3 hl)
      · exact lv_tableIn (off := 1233) (tgt := 1266) hx hb dL_law_33 (by omega) (by omega) (by rw [q9]; rfl) (by decide) (k_settle hC ⟨hn, hL⟩ cr (nxt hn) H locs ls a1 a2 a3 hl)
      · exact lv_tableIn (off := 1276) (tgt := 1309) hx hb dL_law_33 (by omega) (by omega) (by rw [q9]; rfl) (by decide) (k_stuck hC ⟨hn, hL⟩ cr (nxt hn) H locs ls a1 a2 a3 hl)
      · exact lv_tableIn (off := 1289) (tgt := 1322) hx hb dL_law_33 (by omega) (by omega) (by rw [q9]; rfl) (by decide) (k_quarrel hC ⟨hn, hL⟩ cr (nxt hn) H locs ls a1 a2 a3 hl)
      · exact lv_tableIn (off := 1302) (tgt := 1335) hx hb dL_law_33 (by omega) (by omega) (by rw [q9]; rfl) (by decide) (k_asked hC ⟨hn, hL⟩ cr (nxt hn) H locs ls a1 a2 a3 hl)
      · exact lv_tableIn (off := 1315) (tgt := 1348) hx hb dL_law_33 (by omega) (by omega) (by rw [q9]; rfl) (by decide) (k_many hC ⟨hn, hL⟩ cr (nxt hn) H locs ls a1 a2 a3 hl)
      · exact lv_tableIn (off := 1329) (tgt := 1362) hx hb dL_law_33 (by omega) (by omega) (by rw [q9]; rfl) (by decide) (k_upper hC ⟨hn, hL⟩ cr (nxt hn) H locs ls a1 a2 a3 hl)
      · exact lv_tableIn (off := 1343) (tgt := 1376) hx hb dL_law_33 (by omega) (by omega) (by rw [q9]; rfl) (by decide) (k_lower hC ⟨hn, hL⟩ cr (nxt hn) H locs ls a1 a2 a3 hl)
      · exact lv_tableIn (off := 1357) (tgt := 1390) hx hb dL_law_33 (by omega) (by omega) (by rw [q9]; rfl) (by decide) (k_count hC ⟨hn, hL⟩ cr (nxt hn) H locs ls a1 a2 a3 hl)
      · exact lv_tableIn (off := 1380) (tgt := 1413) hx hb dL_law_33 (by omega) (by omega) (by rw [q9]; rfl) (by decide) (k_finding hC ⟨hn, hL⟩ cr (nxt hn) H locs ls a1 a2 a3 hl)
      · exact lv_tableIn (off := 1393) (tgt := 1426) hx hb dL_law_33 (by omega) (by omega) (by rw [q9]; rfl) (by decide) (k_findings hC ⟨hn, hL⟩ cr (nxt hn) H locs ls a1 a2 a3 hl)
      · exact lv_tableIn (off := 1416) (tgt := 1449) hx hb dL_law_33 (by omega) (by omega) (by rw [q9]; rfl) (by decide) (k_digest hC ⟨hn, hL⟩ cr (nxt hn) H locs ls a1 a2 a3 hl)
      · exact lv_tableOut (tgt := 1463) hx hb dL_law_33 q9 (by decide) (nxt hn _ _ _ _ _ cr H locs ls a1 a2 a3 hl)
end
set_option maxHeartbeats 4000000 in
set_option maxRecDepth 100000 in
/-- YOUR PART: from the entry, for every script of at most 3072 ints, the law comes to its end with true ('hflags': the launch's flags, for a law that throws: no stack traces) -/
theorem whole_start {p : Program} {e : Env} {s : State} {m : MethodId} {below : List Frame} {meth : Method} {c : Code} (l : Launch) (hflags : l.flags = flags0) {b L : Nat} {xs : Nat → Int32} (hL : L ≤ 3072) (C0 : lw_At p s m meth c b L xs) : W p l e room_1 s m #[Value.ref b] below meth c s.heap [] 0 0 (lw_Z below #[Value.ref b] s) (entryFrame m ([Value.ref b] : List Value).toArray 4) := by
  obtain ⟨hx, hb, hr, hml, hown, hts, hX, hbl, hlocks, hgv⟩ := id C0
  obtain ⟨G, rfl, hKK⟩ := ld_KK l hts
  have hl := lv_entry ([.ref b]) (n := 4) (Nat.le_of_ble_eq_true rfl)
  rw [lg_entry_eq]
  generalize (lg_sl ([.ref b]) ++ List.replicate (4 - (lg_sl ([.ref b])).length) Slot.unset).toArray = ls at hl ⊢
  have hl : lv_has ls 4 [(0, .ref b)] := hl
  have hS0 : va_S (fun q : Nat => s.heap.size ≤ q) s.heap s.heap [] := va_S.rf
  refine l_new (ci := 7) (n := 19) C0 hKK dL_law_0 rfl clL_7.1 clL_7.2.1 clL_7.2.2 rfl ⟨Nat.le_of_ble_eq_true rfl, Nat.le_of_ble_eq_true rfl⟩ rfl (fun H1 z1 o1 P1 => ?_)
  have S1 : va_S (fun q : Nat => s.heap.size ≤ q) s.heap H1 [] := ⟨by omega, fun q h1 _ => o1 q h1, fun q h => by cases h⟩
  refine lv_dup hx hb dL_law_3 rfl ?_
  refine l_init C0 hKK dL_law_4 lvL_9 rfl (c_X7_init (M := m_zap Mz 0) (fun j => (m_zap_at j).1) (fun j => (m_zap_at j).2.1)) P1 z1 S1 (Nat.le_refl _) hl (Nat.le_of_ble_eq_true rfl) ⟨Nat.le_of_ble_eq_true rfl, Nat.le_of_ble_eq_true rfl⟩ (fun X H2 locs2 FX P2 z2 o2 S2 => ?_)
  refine lv_astore_n (lv' := [(1, .ref s.heap.size), (0, .ref b)]) hx hb dL_law_7 rfl hl (by decide) rfl (fun ls hl => ?_)
  refine l_new (ci := 8) (n := 59) (bz := s.heap.size + 69) C0 hKK dL_law_8 rfl clL_10.1 clL_10.2.1 clL_10.2.2 rfl ⟨Nat.le_of_ble_eq_true rfl, Nat.le_of_ble_eq_true rfl⟩ z2 (fun H3 z3 o3 P3 => ?_)
  have S3 : va_S (fun q : Nat => s.heap.size ≤ q) s.heap H3 locs2 := ⟨by omega, fun q h1 h2 => (o3 q (by omega)).trans (S2.2.1 q h1 h2), S2.2.2⟩
  refine lv_dup hx hb dL_law_11 rfl ?_
  refine l_init C0 hKK dL_law_12 lvL_12 rfl (c_X8_init (M := m_zap Mz 0) (fun j => (m_zap_at j).1) (fun j => (m_zap_at j).2.1)) P3 z3 S3 (by omega) hl (Nat.le_of_ble_eq_true rfl) ⟨Nat.le_of_ble_eq_true rfl, Nat.le_of_ble_eq_true rfl⟩ (fun Y H4 locs4 FY P4 z4 o4 S4 => ?_)
  have P5 : va_P G.2.1 vwCl (m_ws G s.heap.size shX (X.1, X.2.1, X.2.2)) H4 := by
    intro k x hx
    have l2 := m_ws_get hx
    have s1 : shX.length = 69 := rfl
    refine (P2 k x hx).kept ?_
    rw [o4 x.1 (by omega), o3 x.1 (by omega)]
  have P6 : va_P G.2.1 vwCl (m_ws G (s.heap.size + 69) shM (Y.1, Y.2.1, rM)) H4 := by
    rw [← ws_rM FY.1]
    exact P4
  refine lv_astore_n (lv' := [(2, .ref (s.heap.size + 69)), (1, .ref s.heap.size), (0, .ref b)]) hx hb dL_law_15 rfl hl (by decide) rfl (fun ls hl => ?_)
  refine lv_iconst (v := nI 0) hx hb dL_law_16 (by decide) ?_
  refine lv_istore_n (lv' := [(3, .int (nI 0)), (2, .ref (s.heap.size + 69)), (1, .ref s.heap.size), (0, .ref b)]) hx hb dL_law_17 rfl hl (by decide) rfl (fun ls hl => ?_)
  refine W.widen (k := 600000) (n := 7302250) (Nat.le_of_ble_eq_true rfl) (Nat.le_of_ble_eq_true rfl) ?_
  exact law_loop (bx := s.heap.size) (bm := s.heap.size + 69) ⟨C0, hKK, Nat.le_refl _, Nat.le_refl _⟩ hL (L + 1) 0 (Nat.zero_le L) (by omega) _ _ _ _ _ (cr_0 FX FY) H4 locs4 ls P5 P6 S4 (lv_sub hl [3, 2, 1, 0] rfl)

/-! THE SMALL MACHINE'S RULES: calls. -/
theorem m_goodIn {big : List Cond} (h : ∀ w ∈ big, w ∈ m_tbl) : GoodIn m_tbl big := fun w hw => m_good w (h w hw)
/-- what a link by a method's name needs: virtual, special, static, static of a nest mate -/
def m_LV (own : String) (idx : Nat) (μ' : MT) (n : Nat) : Prop := (Cond.methodLink own idx μ'.y ∈ m_tbl ∧ Cond.instanceMethod μ'.y ∈ m_tbl ∧ Cond.selects μ'.y.cls μ'.y μ'.y ∈ m_tbl ∧ Cond.initialized μ'.y.cls ∈ m_tbl ∧ Cond.code μ'.y μ'.cc μ'.nL μ'.ret ∈ m_tbl) ∧ μ'.y.cls ≠ "java/lang/invoke/MethodHandle" ∧ μ'.y.cls ≠ "java/lang/invoke/VarHandle" ∧ (parseMethodDescriptor μ'.y.desc).map (fun d => d.parameters.length) = some n
def m_LI (own : String) (idx : Nat) (μ' : MT) (n : Nat) : Prop := (Cond.methodLink own idx μ'.y ∈ m_tbl ∧ Cond.instanceMethod μ'.y ∈ m_tbl ∧ Cond.initialized μ'.y.cls ∈ m_tbl ∧ Cond.code μ'.y μ'.cc μ'.nL none ∈ m_tbl ∧ μ'.ret = none ∧ μ'.y.name = "<init>") ∧ μ'.y.cls ≠ "java/lang/invoke/MethodHandle" ∧ μ'.y.cls ≠ "java/lang/invoke/VarHandle" ∧ (parseMethodDescriptor μ'.y.desc).map (fun d => d.parameters.length) = some n
def m_LS (own : String) (idx : Nat) (μ' : MT) (n : Nat) : Prop := (Cond.methodLink own idx μ'.y ∈ m_tbl ∧ Cond.static μ'.y ∈ m_tbl ∧ Cond.initialized μ'.y.cls ∈ m_tbl ∧ Cond.code μ'.y μ'.cc μ'.nL μ'.ret ∈ m_tbl) ∧ μ'.y.cls ≠ "java/lang/invoke/MethodHandle" ∧ μ'.y.cls ≠ "java/lang/invoke/VarHandle" ∧ (parseMethodDescriptor μ'.y.desc).map (fun d => d.parameters.length) = some n
def m_LN (own : String) (idx : Nat) (μ' : MT) (n : Nat) : Prop := (∃ host, (own, idx, μ'.y, host) ∈ m_nests) ∧ (Cond.static μ'.y ∈ m_tbl ∧ Cond.initialized μ'.y.cls ∈ m_tbl ∧ Cond.code μ'.y μ'.cc μ'.nL μ'.ret ∈ m_tbl) ∧ μ'.y.cls ≠ "java/lang/invoke/MethodHandle" ∧ μ'.y.cls ≠ "java/lang/invoke/VarHandle" ∧ (parseMethodDescriptor μ'.y.desc).map (fun d => d.parameters.length) = some n
/-- a callee's room in its caller's -/
def m_room (μ μ' : MT) : Bool := Nat.ble (μ'.fr + 1) μ.fr && Nat.ble (8 + (μ'.nL + 11) + μ'.lo) μ.lo
theorem m_room_use {μ μ' : MT} (h : m_room μ μ' = true) : μ'.rm.frames + 1 ≤ μ.rm.frames ∧ 8 + (μ'.nL + 11) + μ'.rm.locals ≤ μ.rm.locals := by
  simp only [m_room, Bool.and_eq_true] at h
  exact ⟨Nat.le_of_ble_eq_true h.1, Nat.le_of_ble_eq_true h.2⟩
theorem m_tv_app (b : Nat) (v : Option MV) (st : List MV) : (v.map (m_tv b)).toList ++ st.map (m_tv b) = (v.toList ++ st).map (m_tv b) := by cases v <;> rfl
section
variable {G : GT} {μ : MT} {tp : Bool} {Qf : Option MV → MS → MM → Prop} {cells slots pc : Nat} {lv : List (Nat × MV)} {st : List MV} {sh : MS} {M : MM}
theorem m_blind {b sz : Nat} {as : List MV} : FrameBlind (va_Pc (as.map (m_tv b)) (fun U => U.heap.size = sz ∧ va_P G.2.1 vwCl (m_ws G b sh M) U.heap ∧ m_KK G U ∧ va_D (fun _ => True) (m_ws G b sh M) ∧ (tp = true → sz = b + sh.length))) :=
  fun a U g mk q => by
    obtain ⟨q0, q1, q2, q3, q4⟩ := q
    exact ⟨q0, q1, q2, q3.same rfl, q4⟩
theorem m_pre {p : Program} {s : State} {m : MethodId} {args : Array Value} {meth : Method} {c : Code} {H : Heap} {A : Nat → Prop} {b : Nat} {as : List MV} (C : m_Ctx G μ p s m args meth c) (hP : va_P G.2.1 vwCl (m_ws G b sh M) H) (hD : va_D A (m_ws G b sh M)) (ht : tp = true → H.size = b + sh.length) :
    ∀ U : State, U.heap = H → s.WarmedH U.vm → va_Pc (as.map (m_tv b)) (fun U => U.heap.size = H.size ∧ va_P G.2.1 vwCl (m_ws G b sh M) U.heap ∧ m_KK G U ∧ va_D (fun _ => True) (m_ws G b sh M) ∧ (tp = true → H.size = b + sh.length)) (as.map (m_tv b)).toArray U :=
  fun U hU hW => ⟨rfl, by rw [hU], by rw [hU]; exact hP, (C.2.2.2.2.2.2.2.2).warm hW, hD.weaken (fun _ _ _ _ => trivial), ht⟩
/-- behind a call -/
theorem m_back {p : Program} {e : Env} {s : State} {m : MethodId} {args : Array Value} {below : List Frame} {meth : Method} {c : Code} {H : Heap} {locs : List Loc} {b : Nat} {A : Nat → Prop} {ls : Array Slot} {μ' : MT} {Qf' : Option MV → MS → MM → Prop} {a : Array Value} {st0 : List Value}
    (C : m_Ctx G μ p s m args meth c) (hD : va_D A (m_ws G b sh M)) (hS : va_S A s.heap H locs) (hA : ∀ q, s.heap.size ≤ q → A q) (hl : lv_has ls μ.nL (lv.map (fun q => (q.1, m_tv b q.2))))
    (hr : va_Run p G.1 e μ.rm s m args below meth c H locs cells slots μ'.mc μ'.ms (F0 m pc ls st0) (st.map (m_tv b)) (m_Qc G b tp Qf' (va_A (m_ws G b sh M) H.size) a) (va_A (m_ws G b sh M) H.size))
    (kk : ∀ v sh' M', Qf' v sh' M' → m_Run G μ tp Qf (cells + μ'.mc) (slots + μ'.ms) (pc + 3) lv (v.toList ++ st) sh' M') : W p G.1 e μ.rm s m args below meth c H locs cells slots (MQ below (m_Qc G b tp Qf A) args s μ.mc μ.ms A) (F0 m pc ls st0) := by
  have hsub : ∀ q, va_A (m_ws G b sh M) H.size q → A q := by
    rintro q (⟨k, e2, hk⟩ | hq)
    · exact hD.2 k _ hk
    · exact hA q (Nat.le_trans hS.1 hq)
  intro T hT X
  obtain ⟨v, st₀, t, T', L, h0, X', hL, e1, e2, ⟨v', sh', M', hv, hq, hP', hD', ht', hz, hk⟩, stp⟩ := hr T hT X
  cases hv
  rw [h0] at hz hk
  have K := kk v' sh' M' hq p e s m args below meth c T'.heap (locs ++ L) b A ls C (by rw [e1]; exact hP') (hD'.weaken (fun k q hk _ => hsub _ (hD'.2 k q hk)))
    ⟨Nat.le_trans hS.1 (by rw [e1]; exact hz), fun q h1 h2 => by rw [e1, hk q (Nat.lt_of_lt_of_le h1 hS.1) (fun z => h2 (hsub q z))]; exact hS.2.1 q h1 h2, fun q hq => by
      rcases List.mem_append.mp hq with h | h
      · exact hS.2.2 q h
      · exact hsub _ (hL q h)⟩ hA (fun h => by rw [e1]; exact ht' h) hl
  obtain ⟨t2, a1, b1⟩ := K T' rfl X'
  refine ⟨t2, stp t2 ?_, b1⟩
  rw [← m_tv_app] at a1
  exact a1
theorem r_callV {idx a ci n : Nat} {μ' : MT} {as st0 : List MV} {q : vw_C} {Qf' : Option MV → MS → MM → Prop} (hd : decode μ.cc pc = .ok (.invokevirtual idx, 3)) (hk : m_LV μ.y.cls idx μ' n) (hroom : m_room μ μ' = true) (hs : m_Spec G μ' tp (mr a :: as) sh M Qf') (hc : sh[a]? = some (.inl ci)) (hq : vwCl[ci]? = some q) (hqc : q.1 = μ'.y.cls) (hst : st0 = as.reverse ++ mr a :: st) (hn : as.length = n) (hw : Nat.ble (m_wid st) 8 = true) (hcell : cells + μ'.mc ≤ μ.mc ∧ slots + μ'.ms ≤ μ.ms)
    (kk : ∀ v sh' M', Qf' v sh' M' → m_Run G μ tp Qf (cells + μ'.mc) (slots + μ'.ms) (pc + 3) lv (v.toList ++ st) sh' M') : m_Run G μ tp Qf cells slots pc lv st0 sh M := by
  intro p e s m args below meth c' H locs b A ls C hP hD hS hA ht hl
  obtain ⟨⟨w1, w2, w3, w4, w5⟩, d1, d2, d3⟩ := hk
  have cw : CallW μ.rm s args μ.y.cls μ'.y.cls idx μ'.y μ'.cc μ'.nL μ'.ret μ'.ws μ'.rm μ'.mc μ'.ms n := cwV n C.2.2.2.2.2.2.1 (m_goodIn (by
    intro w hw
    rcases List.mem_append.mp hw with h | h
    · simp only [List.mem_cons, List.not_mem_nil, or_false] at h
      rcases h with rfl | rfl | rfl | rfl <;> assumption
    · rcases List.mem_cons.mp h with rfl | h
      · exact w5
      · exact h)) rfl rfl rfl ⟨rfl, d1, d2, d3⟩ (m_room_use hroom)
  refine m_back C hD hS hA hl (va_runV (As := as.map (m_tv b)) (rest := st.map (m_tv b)) (b := b + a) ⟨C.1, C.2.1, C.2.2.1, C.2.2.2.2.2.1, C.2.2.2.2.2.2.1⟩ (hs b H.size) cw ⟨m_blind, by rw [← hqc]; exact va_recv C.2.2.2.2.2.2.2.2.1 hP hq (m_ws_at hc), m_pre (as := mr a :: as) C hP hD ht⟩ rfl (by rw [List.length_map]; exact hn) hl.1 (by rw [hst]; simp [m_tv]) (lv_room (by rw [m_wid_sum]; exact Nat.le_of_ble_eq_true hw)) hd hcell) kk
theorem r_callI {idx a n : Nat} {μ' : MT} {as st0 : List MV} {Qf' : Option MV → MS → MM → Prop} (hd : decode μ.cc pc = .ok (.invokespecial idx, 3)) (hk : m_LI μ.y.cls idx μ' n) (hroom : m_room μ μ' = true) (hs : m_Spec G μ' tp (mr a :: as) sh M Qf') (hst : st0 = as.reverse ++ mr a :: st) (hn : as.length = n) (hw : Nat.ble (m_wid st) 8 = true) (hcell : cells + μ'.mc ≤ μ.mc ∧ slots + μ'.ms ≤ μ.ms)
    (kk : ∀ v sh' M', Qf' v sh' M' → m_Run G μ tp Qf (cells + μ'.mc) (slots + μ'.ms) (pc + 3) lv (v.toList ++ st) sh' M') : m_Run G μ tp Qf cells slots pc lv st0 sh M := by
  intro p e s m args below meth c' H locs b A ls C hP hD hS hA ht hl
  obtain ⟨⟨w1, w2, w4, w5, w6, w7⟩, d1, d2, d3⟩ := hk
  have cw := cwI (R := μ.rm) (s := s) (args := args) (own := μ.y.cls) (index := idx) (rm := μ'.rm) (ws := μ'.ws) (ws' := m_tbl) (bytes := μ'.cc) (maxL := μ'.nL) (y := μ'.y) n C.2.2.2.2.2.2.1 (m_goodIn (by
    intro w hw
    rcases List.mem_cons.mp hw with rfl | h
    · rw [w6]; exact w5
    · exact h)) (by rw [← w6]) rfl rfl (C.2.2.2.2.2.2.1 _ w4) (C.2.2.2.2.2.2.1 _ w1) (C.2.2.2.2.2.2.1 _ w2) w7 ⟨d1, d2, d3⟩ (m_room_use hroom)
  refine m_back C hD hS hA hl (va_runI (As := as.map (m_tv b)) (rest := st.map (m_tv b)) (b := b + a) ⟨C.1, C.2.1, C.2.2.1, C.2.2.2.2.2.1, C.2.2.2.2.2.2.1⟩ (hs b H.size) cw ⟨m_blind, m_pre (as := mr a :: as) C hP hD ht⟩ rfl (by rw [List.length_map]; exact hn) hl.1 (by rw [hst]; simp [m_tv]) (lv_room (by rw [m_wid_sum]; exact Nat.le_of_ble_eq_true hw)) hd hcell) kk
theorem r_callS {idx n : Nat} {μ' : MT} {as st0 : List MV} {Qf' : Option MV → MS → MM → Prop} (hd : decode μ.cc pc = .ok (.invokestatic idx, 3)) (hk : m_LS μ.y.cls idx μ' n) (hroom : m_room μ μ' = true) (hs : m_Spec G μ' tp as sh M Qf') (hst : st0 = as.reverse ++ st) (hn : as.length = n) (hw : Nat.ble (m_wid st) 8 = true) (hcell : cells + μ'.mc ≤ μ.mc ∧ slots + μ'.ms ≤ μ.ms)
    (kk : ∀ v sh' M', Qf' v sh' M' → m_Run G μ tp Qf (cells + μ'.mc) (slots + μ'.ms) (pc + 3) lv (v.toList ++ st) sh' M') : m_Run G μ tp Qf cells slots pc lv st0 sh M := by
  intro p e s m args below meth c' H locs b A ls C hP hD hS hA ht hl
  obtain ⟨⟨w1, w2, w4, w5⟩, d1, d2, d3⟩ := hk
  have cb : CallB μ.rm s args μ.y.cls idx μ'.y μ'.cc μ'.nL μ'.ret μ'.ws μ'.rm μ'.mc μ'.ms n := callB_of n C.2.2.2.2.2.2.1 (m_goodIn (by
    intro w hw
    rcases List.mem_cons.mp hw with rfl | h
    · exact w5
    · exact h)) rfl rfl rfl (C.2.2.2.2.2.2.1 _ w4) (C.2.2.2.2.2.2.1 _ w1) ⟨d1, d2, d3⟩ (m_room_use hroom)
  refine m_back C hD hS hA hl (va_runS (As := as.map (m_tv b)) (rest := st.map (m_tv b)) ⟨C.1, C.2.1, C.2.2.1, C.2.2.2.2.2.1, C.2.2.2.2.2.2.1⟩ (hs b H.size) ⟨cb, C.2.2.2.2.2.2.1 _ w2⟩ ⟨m_blind, m_pre (as := as) C hP hD ht⟩ rfl (by rw [List.length_map]; exact hn) hl.1 (by rw [hst]; simp) (lv_room (by rw [m_wid_sum]; exact Nat.le_of_ble_eq_true hw)) hd hcell) kk
theorem r_callN {idx n : Nat} {μ' : MT} {as st0 : List MV} {Qf' : Option MV → MS → MM → Prop} (hd : decode μ.cc pc = .ok (.invokestatic idx, 3)) (hk : m_LN μ.y.cls idx μ' n) (hroom : m_room μ μ' = true) (hs : m_Spec G μ' tp as sh M Qf') (hst : st0 = as.reverse ++ st) (hn : as.length = n) (hw : Nat.ble (m_wid st) 8 = true) (hcell : cells + μ'.mc ≤ μ.mc ∧ slots + μ'.ms ≤ μ.ms)
    (kk : ∀ v sh' M', Qf' v sh' M' → m_Run G μ tp Qf (cells + μ'.mc) (slots + μ'.ms) (pc + 3) lv (v.toList ++ st) sh' M') : m_Run G μ tp Qf cells slots pc lv st0 sh M := by
  intro p e s m args below meth c' H locs b A ls C hP hD hS hA ht hl
  obtain ⟨⟨host, hnest⟩, ⟨w2, w4, w5⟩, d1, d2, d3⟩ := hk
  have cw := va_cnB (R := μ.rm) (s := s) (args := args) (own := μ.y.cls) (host := host) (index := idx) (rm := μ'.rm) (ws := μ'.ws) (ws' := m_tbl) (bytes := μ'.cc) (maxL := μ'.nL) (ret := μ'.ret) (y := μ'.y) n C.2.2.2.2.2.2.1 (m_goodIn (by
    intro w hw
    rcases List.mem_cons.mp hw with rfl | h
    · exact w5
    · exact h)) rfl rfl rfl (C.2.2.2.2.2.2.2.2.2.1 _ hnest) (C.2.2.2.2.2.2.1 _ w4) ⟨d1, d2, d3⟩ (m_room_use hroom)
  refine m_back C hD hS hA hl (va_runSN (As := as.map (m_tv b)) (rest := st.map (m_tv b)) ⟨C.1, C.2.1, C.2.2.1, C.2.2.2.2.2.1, C.2.2.2.2.2.2.1⟩ (hs b H.size) ⟨cw, C.2.2.2.2.2.2.1 _ w2, trivial⟩ ⟨m_blind, m_pre (as := as) C hP hD ht⟩ rfl (by rw [List.length_map]; exact hn) hl.1 (by rw [hst]; simp) (lv_room (by rw [m_wid_sum]; exact Nat.le_of_ble_eq_true hw)) hd hcell) kk
end

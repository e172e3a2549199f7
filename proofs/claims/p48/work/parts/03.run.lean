/-! THE SMALL MACHINE: values, cells and memories as whole numbers, over the kit's rows. 'Run' is the kit's W with the world said whole. -/
abbrev MV : Type := Int ⊕ (Int ⊕ Option Nat)
abbrev mi (z : Int) : MV := Sum.inl z
abbrev ml (z : Int) : MV := Sum.inr (Sum.inl z)
abbrev mr (a : Nat) : MV := Sum.inr (Sum.inr (some a))
abbrev mn : MV := Sum.inr (Sum.inr none)
abbrev MM : Type := (Nat → Int → Int) × (Nat → Int → Int) × (Nat → Int → Option Nat)
abbrev MS : Type := List (Nat ⊕ (Nat × Nat))
def m_up {α : Type} (f : Nat → Int → α) (a : Nat) (i : Int) (v : α) : Nat → Int → α := fun b j => if b = a ∧ j = i then v else f b j
def m_cl {α : Type} (f : Nat → Int → α) (a : Nat) (v : α) : Nat → Int → α := fun b j => if b = a then v else f b j
abbrev m_sI (M : MM) (a : Nat) (i : Int) (v : Int) : MM := (m_up M.1 a i v, M.2)
abbrev m_sL (M : MM) (a : Nat) (i : Int) (v : Int) : MM := (M.1, m_up M.2.1 a i v, M.2.2)
abbrev m_sR (M : MM) (a : Nat) (i : Int) (v : Option Nat) : MM := (M.1, M.2.1, m_up M.2.2 a i v)
def m_zap (M : MM) (a : Nat) : MM := (m_cl M.1 a 0, m_cl M.2.1 a 0, m_cl M.2.2 a none)
def m_tv (b : Nat) : MV → Value
  | .inl z => .int (Int32.ofInt z)
  | .inr (.inl z) => .long (Int64.ofInt z)
  | .inr (.inr (some a)) => .ref (b + a)
  | .inr (.inr none) => .null
def m_cat : MV → Nat
  | .inr (.inl _) => 2
  | _ => 1
theorem m_cat_tv (b : Nat) (v : MV) : (m_tv b v).category = m_cat v := by
  rcases v with z | z | _ | a <;> rfl
def m_fty (c k : Nat) : FieldType := match c with
  | 0 => tyX0 k | 1 => tyX1 k | 2 => tyX2 k | 3 => tyX3 k | 4 => tyX4 k | 5 => tyX5 k | 6 => tyX6 k | 7 => tyX7 k | _ => tyX8 k
def m_nf (c : Nat) : Nat := match c with
  | 0 => 9 | 1 => 3 | 2 => 5 | 3 => 12 | 4 => 4 | 5 => 2 | 6 => 17 | 7 => 19 | _ => 0
abbrev GT : Type := Launch × va_G × (Nat → ClassId)
abbrev m_tys (G : GT) : List (ClassId × FieldType) := [(G.2.2 0, .int), (G.2.2 1, .long), (G.2.2 2, .int), (G.2.2 3, .array .int)]
/-- what a field of a type holds -/
def m_fv (b : Nat) (M : MM) (a : Nat) (ty : FieldType) (k : Nat) : Value := match ty with
  | .long => .long (Int64.ofInt (M.2.1 a k))
  | .object _ => va_rf ((M.2.2 a k).map (b + ·))
  | .array _ => va_rf ((M.2.2 a k).map (b + ·))
  | _ => .int (Int32.ofInt (M.1 a k))
def m_fs (b : Nat) (M : MM) (a c : Nat) : List Value := (List.range (m_nf c)).map (fun k => m_fv b M a (m_fty c k) k)
def m_en (G : GT) (b : Nat) (M : MM) (a : Nat) (d : Nat ⊕ (Nat × Nat)) : va_E := match d with
  | .inl c => .inr (c, m_fs b M a c)
  | .inr (0, n) => .inl (G.2.2 0, n, .inl (fun k => Int32.ofInt (M.1 a k)))
  | .inr (1, n) => .inl (G.2.2 1, n, .inr (.inl (fun k => Int64.ofInt (M.2.1 a k))))
  | .inr (2, n) => .inl (G.2.2 2, n, .inl (fun k => Int32.ofInt (M.1 a k)))
  | .inr (_, n) => .inl (G.2.2 3, n, .inr (.inr (.inr (.inr (fun k => (M.2.2 a k).map (b + ·))))))
def m_ws (G : GT) (b : Nat) (sh : MS) (M : MM) : va_W := sh.mapIdx (fun a d => (b + a, m_en G b M a d))
theorem m_ws_at {G : GT} {b : Nat} {sh : MS} {M : MM} {a : Nat} {d : Nat ⊕ (Nat × Nat)} (h : sh[a]? = some d) : (m_ws G b sh M)[a]? = some (b + a, m_en G b M a d) := by
  simp [m_ws, h]
theorem m_ws_set {G : GT} {b : Nat} {sh : MS} {M M' : MM} {a : Nat} {d : Nat ⊕ (Nat × Nat)} (h : sh[a]? = some d) (ho : ∀ c d', c ≠ a → sh[c]? = some d' → m_en G b M' c d' = m_en G b M c d') :
    (m_ws G b sh M).set a (b + a, m_en G b M' a d) = m_ws G b sh M' := by
  apply List.ext_getElem?
  intro c
  by_cases hc : c = a
  · subst hc
    have hl : c < (m_ws G b sh M).length := by
      have := (List.getElem?_eq_some_iff.mp h).1
      simpa [m_ws] using this
    rw [List.getElem?_set_self hl, m_ws_at h]
  · rw [List.getElem?_set_ne (Ne.symm hc)]
    cases hd : sh[c]? with
    | none => simp [m_ws, hd]
    | some d' => rw [m_ws_at hd, m_ws_at hd, ho c d' hc hd]
theorem m_up_ne {α : Type} {f : Nat → Int → α} {a c : Nat} {i : Int} {v : α} (h : c ≠ a) (j : Int) : m_up f a i v c j = f c j := by simp [m_up, h]
theorem m_up_nj {α : Type} {f : Nat → Int → α} {a c : Nat} {i j : Int} {v : α} (h : j ≠ i) : m_up f a i v c j = f c j := by simp [m_up, h]
theorem m_up_eq {α : Type} {f : Nat → Int → α} {a : Nat} {i : Int} {v : α} : m_up f a i v a i = v := by simp [m_up]
/-- another cell's picture stays -/
theorem m_en_keep {G : GT} {b : Nat} {M M' : MM} {c : Nat} (h1 : ∀ j, M'.1 c j = M.1 c j) (h2 : ∀ j, M'.2.1 c j = M.2.1 c j) (h3 : ∀ j, M'.2.2 c j = M.2.2 c j) (d : Nat ⊕ (Nat × Nat)) : m_en G b M' c d = m_en G b M c d := by
  have hf : ∀ ty k, m_fv b M' c ty k = m_fv b M c ty k := fun ty k => by cases ty <;> simp only [m_fv, h1, h2, h3]
  rcases d with k | ⟨_ | _ | _ | _, n⟩
  · simp only [m_en, m_fs, hf]
  · simp only [m_en, h1]
  · simp only [m_en, h2]
  · simp only [m_en, h1]
  · simp only [m_en, h3]
/-! the words that every method has -/
def m_tbl : List Cond := lw_tbl.filter goodWord
abbrev MT : Type := MethodName × ByteArray × Nat × Option FieldType × Nat × Nat × Nat × Nat
abbrev MT.y (μ : MT) : MethodName := μ.1
abbrev MT.cc (μ : MT) : ByteArray := μ.2.1
abbrev MT.nL (μ : MT) : Nat := μ.2.2.1
abbrev MT.ret (μ : MT) : Option FieldType := μ.2.2.2.1
abbrev MT.fr (μ : MT) : Nat := μ.2.2.2.2.1
abbrev MT.lo (μ : MT) : Nat := μ.2.2.2.2.2.1
abbrev MT.mc (μ : MT) : Nat := μ.2.2.2.2.2.2.1
abbrev MT.ms (μ : MT) : Nat := μ.2.2.2.2.2.2.2
abbrev MT.ws (μ : MT) : List Cond := Cond.code μ.y μ.cc μ.nL μ.ret :: m_tbl
abbrev MT.rm (μ : MT) : Room := { frames := μ.fr, cells := μ.mc, slots := μ.ms, locals := μ.lo }
abbrev m_nests : List (String × Nat × MethodName × String) := [(RX3, 89, yX7_roomBit, RX7), (RX6, 95, yX7_capped, RX7), (RX6, 116, yX7_roomsOf, RX7)]
def m_KK (G : GT) (U : State) : Prop := va_K G.2.1 vwCl (m_tys G) U ∧ (∀ q ∈ m_nests, va_Nw (.methodLinkNest q.1 q.2.1 q.2.2.1 q.2.2.2) U) ∧ (Cond.arrayOver (.array .int)).before #[] U = true
theorem m_KK.same {G : GT} {u U : State} (h : u.vm = U.vm) (k : m_KK G u) : m_KK G U :=
  ⟨va_K.moved (by rw [h]; exact Vm.Alike.refl _) k.1, fun q hq => va_Nw.same rfl h (k.2.1 q hq), over_moved (by rw [h]; exact Vm.Alike.refl _) k.2.2⟩
theorem m_KK.warm {G : GT} {s U : State} (h : s.WarmedH U.vm) (k : m_KK G s) : m_KK G U :=
  ⟨va_K.moved h.alike k.1, fun q hq => va_Nw.warmM h (k.2.1 q hq), over_moved h.alike k.2.2⟩
def m_Ctx (G : GT) (μ : MT) (p : Program) (s : State) (m : MethodId) (args : Array Value) (meth : Method) (c : Code) : Prop :=
  p.tables.exec = Jvm.exec ∧ c.code = μ.cc ∧ c.maxLocals = μ.nL ∧ meth.sig.returnType = μ.ret ∧ meth.locks = false ∧ s.vm.findClass μ.y.cls = some m.cls ∧ (∀ w ∈ m_tbl, w.before args s = true) ∧ meth.name = μ.y.name ∧ m_KK G s
/-- the end of a method: what it answers, and the world behind it -/
def m_Qc (G : GT) (b : Nat) (tp : Bool) (Qf : Option MV → MS → MM → Prop) (A : Nat → Prop) : Array Value → State → Outcome → State → Prop := fun _ st oc t =>
  ∃ (v : Option MV) (sh : MS) (M : MM), oc = .returned (v.map (m_tv b)) ∧ Qf v sh M ∧ va_P G.2.1 vwCl (m_ws G b sh M) t.heap ∧ va_D A (m_ws G b sh M) ∧ (tp = true → t.heap.size = b + sh.length) ∧ va_F A st t
def m_Run (G : GT) (μ : MT) (tp : Bool) (Qf : Option MV → MS → MM → Prop) (cells slots pc : Nat) (lv : List (Nat × MV)) (st : List MV) (sh : MS) (M : MM) : Prop :=
  ∀ (p : Program) (e : Env) (s : State) (m : MethodId) (args : Array Value) (below : List Frame) (meth : Method) (c : Code) (H : Heap) (locs : List Loc) (b : Nat) (A : Nat → Prop) (ls : Array Slot),
    m_Ctx G μ p s m args meth c → va_P G.2.1 vwCl (m_ws G b sh M) H → va_D A (m_ws G b sh M) → va_S A s.heap H locs → (∀ q, s.heap.size ≤ q → A q) → (tp = true → H.size = b + sh.length) →
    lv_has ls μ.nL (lv.map (fun q => (q.1, m_tv b q.2))) →
    W p G.1 e μ.rm s m args below meth c H locs cells slots (MQ below (m_Qc G b tp Qf A) args s μ.mc μ.ms A) (F0 m pc ls (st.map (m_tv b)))
def m_Spec (G : GT) (μ : MT) (tp : Bool) (as : List MV) (sh : MS) (M : MM) (Qf : Option MV → MS → MM → Prop) : Prop :=
  ∀ (b sz : Nat), Met G.1 μ.y μ.ws μ.rm (va_Pc (as.map (m_tv b)) (fun U => U.heap.size = sz ∧ va_P G.2.1 vwCl (m_ws G b sh M) U.heap ∧ m_KK G U ∧ va_D (fun _ => True) (m_ws G b sh M) ∧ (tp = true → sz = b + sh.length)))
    (m_Qc G b tp Qf (va_A (m_ws G b sh M) sz)) μ.mc μ.ms (va_A (m_ws G b sh M) sz)
def m_args : Nat → List MV → List (Nat × MV)
  | _, [] => []
  | i, v :: vs => (i, v) :: m_args (if m_cat v = 2 then i + 2 else i + 1) vs
def m_wid : List MV → Nat
  | [] => 0
  | v :: vs => m_cat v + m_wid vs
theorem m_args_tv (b : Nat) : ∀ (vs : List MV) (i : Nat), lv_args i (vs.map (m_tv b)) = (m_args i vs).map (fun q => (q.1, m_tv b q.2))
  | [], _ => rfl
  | v :: vs, i => by
    show (i, m_tv b v) :: lv_args (if (m_tv b v).category = 2 then i + 2 else i + 1) (vs.map (m_tv b)) = _
    rw [m_args_tv b vs, m_cat_tv]
    rfl
theorem m_wid_sl (b : Nat) : ∀ (vs : List MV), (lg_sl (vs.map (m_tv b))).length = m_wid vs
  | [] => rfl
  | v :: vs => by
    have h := m_wid_sl b vs
    simp only [lg_sl, List.map_cons, List.flatMap_cons, List.length_append, m_wid] at h ⊢
    rw [h, m_cat_tv]
    rcases v with z | z | _ | a <;> rfl
theorem m_wid_sum (b : Nat) : ∀ (vs : List MV), ((vs.map (m_tv b)).map fun v => v.category).sum = m_wid vs
  | [] => rfl
  | v :: vs => by
    simp only [List.map_cons, List.sum_cons, m_wid, m_cat_tv]
    rw [← m_wid_sum b vs]
set_option maxHeartbeats 1000000 in
/-- a contract out of a run from the entry -/
theorem m_Spec.of {G : GT} {μ : MT} {tp : Bool} {as : List MV} {sh : MS} {M : MM} {Qf : Option MV → MS → MM → Prop} (hp : plainName μ.y.cls = true) (hw : m_wid as ≤ μ.nL)
    (h : m_Run G μ tp Qf 0 0 0 (m_args 0 as) [] sh M) : m_Spec G μ tp as sh M Qf := by
  intro b sz
  refine Met.ofW (cc := μ.cc) (maxL := μ.nL) (ret := μ.ret) hp rfl ?_
  intro p e s m args below meth c s₁ B hml hv
  obtain ⟨rfl, hsz, hP, hK, hD0, htp⟩ := hv
  have hts := atoms_spec (ws := μ.ws) B.pre
  have hown : s.vm.findClass μ.y.cls = some m.cls := findClass_of_methodNamed B.named
  have hin : meth.name = μ.y.name := (name_of_methodNamed B.named B.method).1
  subst hsz
  have hD := hD0.self (sz := s.heap.size)
  have hl := lv_entry (as.map (m_tv b)) (n := μ.nL) (by rw [m_wid_sl]; exact hw)
  rw [lg_entry_eq]
  rw [m_args_tv] at hl
  exact h p e s m _ below meth c s.heap [] b _ _ ⟨B.exec, B.bytes, hml, B.returns, B.notSynchronized, hown, fun w hq => hts w (List.mem_cons_of_mem _ hq), hin, hK⟩ hP hD va_S.rf (fun q hq => Or.inr hq) htp hl


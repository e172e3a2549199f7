/-! THE LAW'S MACHINE: worlds of several blocks at fixed places, the script among them; over the kit's rows. -/
abbrev NB : Type := List (Nat × MS)
abbrev NC : Type := Option (Nat × Nat × (Nat → Int32))
abbrev NM : Type := Nat → MM
/-- what is known of the cells that may change; how a run ends -/
abbrev NZ : Type := ((Nat → Prop) → State → Prop) × (Nat → (Nat → Prop) → List Frame → Array Value → State → State → Prop)
def n_P (G : GT) (b : Nat) (bs : NB) (N : NM) (H : Heap) : Prop := ∀ (i : Nat) (q : Nat × MS), bs[i]? = some q → va_P G.2.1 vwCl (m_ws G (b + q.1) q.2 (N i)) H
def n_A (A : Nat → Prop) (b : Nat) (bs : NB) : Prop := ∀ (i : Nat) (q : Nat × MS), bs[i]? = some q → ∀ k, k < q.2.length → A (b + q.1 + k)
/-- the blocks are apart, and the script from them -/
def n_ap (bs : NB) : Prop := ∀ (i j : Nat) (p q : Nat × MS), bs[i]? = some p → bs[j]? = some q → i ≠ j → ∀ k l, k < p.2.length → l < q.2.length → p.1 + k ≠ q.1 + l
def n_as (sc : NC) (bs : NB) : Prop := match sc with
  | none => True
  | some x => ∀ (i : Nat) (q : Nat × MS), bs[i]? = some q → ∀ k, k < q.2.length → x.1 ≠ q.1 + k
def n_X (sc : NC) (b : Nat) (A : Nat → Prop) (s : State) : Prop := match sc with
  | none => True
  | some x => va_X (b + x.1) x.2.1 x.2.2 s s.heap ∧ b + x.1 < s.heap.size ∧ ¬ A (b + x.1)
def n_Ctx (G : GT) (μ : MT) (p : Program) (s : State) (m : MethodId) (args : Array Value) (meth : Method) (c : Code) : Prop :=
  p.tables.exec = Jvm.exec ∧ c.code = μ.cc ∧ c.maxLocals = μ.nL ∧ meth.sig.returnType = μ.ret ∧ meth.locks = false ∧ s.vm.findClass μ.y.cls = some m.cls ∧ (∀ w ∈ m_tbl, w.before args s = true) ∧ True ∧ m_KK G s
def n_Run (G : GT) (μ : MT) (rm : Room) (Z : NZ) (sc : NC) (bs : NB) (cells slots pc : Nat) (lv : List (Nat × MV)) (st : List MV) (N : NM) : Prop :=
  ∀ (p : Program) (e : Env) (s : State) (m : MethodId) (args : Array Value) (below : List Frame) (meth : Method) (c : Code) (H : Heap) (locs : List Loc) (b : Nat) (A : Nat → Prop) (ls : Array Slot),
    n_Ctx G μ p s m args meth c → n_P G b bs N H → (n_A A b bs ∧ n_X sc b A s) → va_S A s.heap H locs → (∀ q, s.heap.size ≤ q → A q) → Z.1 A s →
    lv_has ls μ.nL (lv.map (fun q => (q.1, m_tv b q.2))) →
    W p G.1 e rm s m args below meth c H locs cells slots (Z.2 b A below args s) (F0 m pc ls (st.map (m_tv b)))
theorem n_wsD {G : GT} {b : Nat} {sh : MS} {M : MM} {A : Nat → Prop} (h : ∀ k, k < sh.length → A (b + k)) : va_D A (m_ws G b sh M) := by
  refine ⟨fun i j p q hi hj e => ?_, fun k q hk => ?_⟩
  · simp only [m_ws, List.getElem?_mapIdx, Option.map_eq_some_iff] at hi hj
    obtain ⟨d, hd, rfl⟩ := hi
    obtain ⟨d', hd', rfl⟩ := hj
    simp only at e
    omega
  · simp only [m_ws, List.getElem?_mapIdx, Option.map_eq_some_iff] at hk
    obtain ⟨d, hd, rfl⟩ := hk
    exact h k (List.getElem?_eq_some_iff.mp hd).1
theorem n_wsg {G : GT} {b : Nat} {sh : MS} {M : MM} {k : Nat} {x : Nat × va_E} (h : (m_ws G b sh M)[k]? = some x) : x.1 = b + k ∧ k < sh.length := by
  simp only [m_ws, List.getElem?_mapIdx, Option.map_eq_some_iff] at h
  obtain ⟨d, hd, rfl⟩ := h
  exact ⟨rfl, (List.getElem?_eq_some_iff.mp hd).1⟩
section
variable {G : GT} {μ : MT} {rm : Room} {Z : NZ} {sc : NC} {bs : NB} {cells slots pc : Nat} {lv : List (Nat × MV)} {st : List MV} {N : NM}
theorem n_lift {pc' : Nat} {st' : List MV} (h : ∀ {p : Program} {l : Launch} {e : Env} {R : Room} {s : State} {m : MethodId} {args : Array Value} {below : List Frame} {meth : Method} {c : Code} {H : Heap} {locs : List Loc} {b : Nat} {ls : Array Slot} {Q : State → Prop}, p.tables.exec = Jvm.exec → c.code = μ.cc → W p l e R s m args below meth c H locs cells slots Q (F0 m pc' ls (st'.map (m_tv b))) → W p l e R s m args below meth c H locs cells slots Q (F0 m pc ls (st.map (m_tv b))))
    (k : n_Run G μ rm Z sc bs cells slots pc' lv st' N) : n_Run G μ rm Z sc bs cells slots pc lv st N :=
  fun p e s m args below meth c H locs b A ls C hP hD hS hA ht hl => h C.1 C.2.1 (k p e s m args below meth c H locs b A ls C hP hD hS hA ht hl)
theorem n_liftC {pc' : Nat} {st' : List MV} (h : ∀ {p : Program} {l : Launch} {e : Env} {R : Room} {s : State} {m : MethodId} {args : Array Value} {below : List Frame} {meth : Method} {c : Code} {H : Heap} {locs : List Loc} {b : Nat} {ls : Array Slot} {Q : State → Prop}, n_Ctx G μ p s m args meth c → n_P G b bs N H → lv_has ls μ.nL (lv.map (fun q => (q.1, m_tv b q.2))) → W p l e R s m args below meth c H locs cells slots Q (F0 m pc' ls (st'.map (m_tv b))) → W p l e R s m args below meth c H locs cells slots Q (F0 m pc ls (st.map (m_tv b))))
    (k : n_Run G μ rm Z sc bs cells slots pc' lv st' N) : n_Run G μ rm Z sc bs cells slots pc lv st N :=
  fun p e s m args below meth c H locs b A ls C hP hD hS hA ht hl => h C hP hl (k p e s m args below meth c H locs b A ls C hP hD hS hA ht hl)
/-- fewer locals are known -/
theorem n_top {lv' : List (Nat × MV)} (n : Nat) (he : lv.filter (fun q => Nat.blt q.1 n) = lv') (k : n_Run G μ rm Z sc bs cells slots pc lv' st N) : n_Run G μ rm Z sc bs cells slots pc lv st N :=
  fun p e s m args below meth c H locs b A ls C hP hD hS hA ht hl => k p e s m args below meth c H locs b A ls C hP hD hS hA ht
    ⟨hl.1, hl.2.1, fun q hq => by
      obtain ⟨x, hx, rfl⟩ := List.mem_map.mp hq
      rw [← he] at hx
      exact hl.2.2 _ (List.mem_map.mpr ⟨x, (List.mem_filter.mp hx).1, rfl⟩)⟩
theorem n_iconst {n : Int} (hd : decode μ.cc pc = .ok (.iconst n, 1)) (k : n_Run G μ rm Z sc bs cells slots (pc + 1) lv (mi n :: st) N) : n_Run G μ rm Z sc bs cells slots pc lv st N := n_lift (fun hx hb k => lv_iconst hx hb hd rfl k) k
theorem n_bipush {n : Int} (hd : decode μ.cc pc = .ok (.bipush n, 2)) (hv : (Int8.ofInt n).toInt32 = Int32.ofInt n) (k : n_Run G μ rm Z sc bs cells slots (pc + 2) lv (mi n :: st) N) : n_Run G μ rm Z sc bs cells slots pc lv st N := n_lift (fun hx hb k => lv_bipush hx hb hd hv k) k
theorem n_sipush {n : Int} (hd : decode μ.cc pc = .ok (.sipush n, 3)) (hv : (Int16.ofInt n).toInt32 = Int32.ofInt n) (k : n_Run G μ rm Z sc bs cells slots (pc + 3) lv (mi n :: st) N) : n_Run G μ rm Z sc bs cells slots pc lv st N := n_lift (fun hx hb k => lv_sipush hx hb hd hv k) k
theorem n_ldc {idx : Nat} (z : Int) (hd : decode μ.cc pc = .ok (.ldc idx, 2)) (hw : Cond.constant μ.y.cls idx (Int32.ofInt z) ∈ m_tbl) (k : n_Run G μ rm Z sc bs cells slots (pc + 2) lv (mi z :: st) N) : n_Run G μ rm Z sc bs cells slots pc lv st N :=
  n_liftC (fun C _ _ k => lv_ldc C.1 C.2.1 C.2.2.2.2.2.1 (C.2.2.2.2.2.2.1 _ hw) hd k) k
theorem n_iload_n {j : Fin 4} {i : Nat} {x : Int} (hd : decode μ.cc pc = .ok (.iload_n j, 1)) (q : Nat) (hq : lv[q]? = some (i, mi x)) (hi : (j : Nat) = i) (k : n_Run G μ rm Z sc bs cells slots (pc + 1) lv (mi x :: st) N) : n_Run G μ rm Z sc bs cells slots pc lv st N :=
  n_liftC (fun C _ hl k => lv_iload_n C.1 C.2.1 hd hi (m_lv_at hl q hq) k) k
theorem n_iload {i : Nat} {x : Int} (hd : decode μ.cc pc = .ok (.iload i, 2)) (q : Nat) (hq : lv[q]? = some (i, mi x)) (k : n_Run G μ rm Z sc bs cells slots (pc + 2) lv (mi x :: st) N) : n_Run G μ rm Z sc bs cells slots pc lv st N :=
  n_liftC (fun C _ hl k => lv_iload C.1 C.2.1 hd (m_lv_at hl q hq) k) k
theorem n_aload_n {j : Fin 4} {i : Nat} {x : Nat} (hd : decode μ.cc pc = .ok (.aload_n j, 1)) (q : Nat) (hq : lv[q]? = some (i, mr x)) (hi : (j : Nat) = i) (k : n_Run G μ rm Z sc bs cells slots (pc + 1) lv (mr x :: st) N) : n_Run G μ rm Z sc bs cells slots pc lv st N :=
  n_liftC (fun C _ hl k => lv_aload_n C.1 C.2.1 hd hi (m_lv_at hl q hq) k) k
theorem n_aload {i : Nat} {x : Nat} (hd : decode μ.cc pc = .ok (.aload i, 2)) (q : Nat) (hq : lv[q]? = some (i, mr x)) (k : n_Run G μ rm Z sc bs cells slots (pc + 2) lv (mr x :: st) N) : n_Run G μ rm Z sc bs cells slots pc lv st N :=
  n_liftC (fun C _ hl k => lv_aload C.1 C.2.1 hd (m_lv_at hl q hq) k) k
/-- the locals behind a store, by their numbers -/
theorem n_istore_n {j : Fin 4} {i : Nat} {x : Int} {lv' : List (Nat × MV)} (hd : decode μ.cc pc = .ok (.istore_n j, 1)) (hi : (j : Nat) = i) (hn : Nat.blt i μ.nL = true) (hl' : m_st i (mi x) lv = lv') (k : n_Run G μ rm Z sc bs cells slots (pc + 1) lv' st N) : n_Run G μ rm Z sc bs cells slots pc lv (mi x :: st) N :=
  fun p e s m args below meth c H locs b A ls C hP hD hS hA ht hl => lv_istore_n C.1 C.2.1 hd hi hl (by simpa [Nat.blt_eq] using hn) rfl (fun ls' h => k p e s m args below meth c H locs b A ls' C hP hD hS hA ht (hl' ▸ m_st1 (v := mi x) h))
theorem n_istore {i : Nat} {x : Int} {lv' : List (Nat × MV)} (hd : decode μ.cc pc = .ok (.istore i, 2)) (hn : Nat.blt i μ.nL = true) (hl' : m_st i (mi x) lv = lv') (k : n_Run G μ rm Z sc bs cells slots (pc + 2) lv' st N) : n_Run G μ rm Z sc bs cells slots pc lv (mi x :: st) N :=
  fun p e s m args below meth c H locs b A ls C hP hD hS hA ht hl => lv_istore C.1 C.2.1 hd hl (by simpa [Nat.blt_eq] using hn) rfl (fun ls' h => k p e s m args below meth c H locs b A ls' C hP hD hS hA ht (hl' ▸ m_st1 (v := mi x) h))
theorem n_astore_n {j : Fin 4} {i : Nat} {x : Nat} {lv' : List (Nat × MV)} (hd : decode μ.cc pc = .ok (.astore_n j, 1)) (hi : (j : Nat) = i) (hn : Nat.blt i μ.nL = true) (hl' : m_st i (mr x) lv = lv') (k : n_Run G μ rm Z sc bs cells slots (pc + 1) lv' st N) : n_Run G μ rm Z sc bs cells slots pc lv (mr x :: st) N :=
  fun p e s m args below meth c H locs b A ls C hP hD hS hA ht hl => lv_astore_n C.1 C.2.1 hd hi hl (by simpa [Nat.blt_eq] using hn) rfl (fun ls' h => k p e s m args below meth c H locs b A ls' C hP hD hS hA ht (hl' ▸ m_st1 (v := mr x) h))
theorem n_astore {i : Nat} {x : Nat} {lv' : List (Nat × MV)} (hd : decode μ.cc pc = .ok (.astore i, 2)) (hn : Nat.blt i μ.nL = true) (hl' : m_st i (mr x) lv = lv') (k : n_Run G μ rm Z sc bs cells slots (pc + 2) lv' st N) : n_Run G μ rm Z sc bs cells slots pc lv (mr x :: st) N :=
  fun p e s m args below meth c H locs b A ls C hP hD hS hA ht hl => lv_astore C.1 C.2.1 hd hl (by simpa [Nat.blt_eq] using hn) rfl (fun ls' h => k p e s m args below meth c H locs b A ls' C hP hD hS hA ht (hl' ▸ m_st1 (v := mr x) h))
theorem n_iinc {i : Nat} {n x : Int} {lv' : List (Nat × MV)} (hd : decode μ.cc pc = .ok (.iinc i n, 3)) (q : Nat) (hq : lv[q]? = some (i, mi x)) (hn : Nat.blt i μ.nL = true) (hl' : m_st i (mi (x + n)) lv = lv') (k : n_Run G μ rm Z sc bs cells slots (pc + 3) lv' st N) : n_Run G μ rm Z sc bs cells slots pc lv st N :=
  fun p e s m args below meth c H locs b A ls C hP hD hS hA ht hl => lv_iinc C.1 C.2.1 hd hl (k := q) (by rw [List.getElem?_map, hq]; rfl) (v := Int32.ofInt (x + n)) (Int32.ofInt_add x n).symm (by simpa [Nat.blt_eq] using hn) rfl (fun ls' h => k p e s m args below meth c H locs b A ls' C hP hD hS hA ht (hl' ▸ m_st1 (v := mi (x + n)) h))
theorem n_pop {v : MV} (hd : decode μ.cc pc = .ok (.pop, 1)) (hc : m_cat v = 1) (k : n_Run G μ rm Z sc bs cells slots (pc + 1) lv st N) : n_Run G μ rm Z sc bs cells slots pc lv (v :: st) N := n_lift (fun hx hb k => lv_pop hx hb hd (by rw [m_cat_tv]; exact hc) k) k
theorem n_iadd {x y : Int} (hd : decode μ.cc pc = .ok (.iadd, 1)) (k : n_Run G μ rm Z sc bs cells slots (pc + 1) lv (mi (x + y) :: st) N) : n_Run G μ rm Z sc bs cells slots pc lv (mi y :: mi x :: st) N :=
  n_lift (fun hx hb k => lv_iadd hx hb hd (by rw [← Int32.ofInt_add]; exact k)) k
theorem n_isub {x y : Int} (hd : decode μ.cc pc = .ok (.isub, 1)) (k : n_Run G μ rm Z sc bs cells slots (pc + 1) lv (mi (x - y) :: st) N) : n_Run G μ rm Z sc bs cells slots pc lv (mi y :: mi x :: st) N :=
  n_lift (fun hx hb k => lv_isub hx hb hd (by rw [← Int32.ofInt_sub]; exact k)) k
theorem n_imul {x y : Int} (hd : decode μ.cc pc = .ok (.imul, 1)) (k : n_Run G μ rm Z sc bs cells slots (pc + 1) lv (mi (x * y) :: st) N) : n_Run G μ rm Z sc bs cells slots pc lv (mi y :: mi x :: st) N :=
  n_lift (fun hx hb k => lv_imul hx hb hd (by rw [← Int32.ofInt_mul]; exact k)) k
theorem n_irem {x y : Int} (hd : decode μ.cc pc = .ok (.irem, 1)) (hx : -2147483648 ≤ x ∧ x ≤ 2147483647) (hy : 0 < y ∧ y ≤ 2147483647) (k : n_Run G μ rm Z sc bs cells slots (pc + 1) lv (mi (x.tmod y) :: st) N) : n_Run G μ rm Z sc bs cells slots pc lv (mi y :: mi x :: st) N :=
  n_lift (fun hx0 hb k => lv_irem hx0 hb hd (fun h => by have := (z_eq (x := y) (y := 0) (by omega) (by omega)).mp h; omega) (by rw [z_div hx hy, ← Int32.ofInt_mul, ← Int32.ofInt_sub, show x - x.tdiv y * y = x.tmod y by rw [Int.tmod_def, Int.mul_comm]]; exact k)) k
theorem n_iand {x y : Int} (hd : decode μ.cc pc = .ok (.iand, 1)) (k : n_Run G μ rm Z sc bs cells slots (pc + 1) lv (mi (z_and x y) :: st) N) : n_Run G μ rm Z sc bs cells slots pc lv (mi y :: mi x :: st) N :=
  n_lift (fun hx hb k => lv_iand hx hb hd (by rw [← z_oi (Int32.ofInt x &&& Int32.ofInt y)]; exact k)) k
theorem n_ishl {x y : Int} (hd : decode μ.cc pc = .ok (.ishl, 1)) (k : n_Run G μ rm Z sc bs cells slots (pc + 1) lv (mi (z_shl x y) :: st) N) : n_Run G μ rm Z sc bs cells slots pc lv (mi y :: mi x :: st) N :=
  n_lift (fun hx hb k => lv_ishl hx hb hd (by rw [← z_oi (Int32.ofInt x <<< (Int32.ofInt y &&& 31))]; exact k)) k
theorem n_ishr {x y : Int} (hd : decode μ.cc pc = .ok (.ishr, 1)) (k : n_Run G μ rm Z sc bs cells slots (pc + 1) lv (mi (z_shr x y) :: st) N) : n_Run G μ rm Z sc bs cells slots pc lv (mi y :: mi x :: st) N :=
  n_lift (fun hx hb k => lv_ishr hx hb hd (by rw [← z_oi (Int32.ofInt x >>> (Int32.ofInt y &&& 31))]; exact k)) k
theorem n_i2l {x : Int} (hd : decode μ.cc pc = .ok (.i2l, 1)) (h : -2147483648 ≤ x ∧ x ≤ 2147483647) (k : n_Run G μ rm Z sc bs cells slots (pc + 1) lv (ml x :: st) N) : n_Run G μ rm Z sc bs cells slots pc lv (mi x :: st) N :=
  n_lift (fun hx hb k => lv_i2l hx hb hd (by rw [← Int64.ofInt_int32ToInt, z_t h]) k) k
theorem n_goto {off : Int} {tgt : Nat} (hd : decode μ.cc pc = .ok (.goto off, 3)) (ht : (pc : Int) + off = (tgt : Int)) (k : n_Run G μ rm Z sc bs cells slots tgt lv st N) : n_Run G μ rm Z sc bs cells slots pc lv st N := n_lift (fun hx hb k => lv_goto hx hb hd ht k) k
theorem n_if_eq {x : Int} {off : Int} {tgt : Nat} (hd : decode μ.cc pc = .ok (.ifCond .eq off, 3)) (ht : (pc : Int) + off = (tgt : Int)) (h0 : -2147483648 ≤ x ∧ x ≤ 2147483647) (kt : x = 0 → n_Run G μ rm Z sc bs cells slots tgt lv st N) (kf : ¬ (x = 0) → n_Run G μ rm Z sc bs cells slots (pc + 3) lv st N) : n_Run G μ rm Z sc bs cells slots pc lv (mi x :: st) N :=
  fun p e s m args below meth c H locs b A ls C hP hD hS hA h9 hl => lv_if_eq C.1 C.2.1 hd ht (fun q => kt ((z_eq h0 (by omega : (-2147483648 : Int) ≤ 0 ∧ (0 : Int) ≤ 2147483647)).mp q) p e s m args below meth c H locs b A ls C hP hD hS hA h9 hl) (fun q => kf (fun z => q ((z_eq h0 (by omega : (-2147483648 : Int) ≤ 0 ∧ (0 : Int) ≤ 2147483647)).mpr z)) p e s m args below meth c H locs b A ls C hP hD hS hA h9 hl)
theorem n_if_ne {x : Int} {off : Int} {tgt : Nat} (hd : decode μ.cc pc = .ok (.ifCond .ne off, 3)) (ht : (pc : Int) + off = (tgt : Int)) (h0 : -2147483648 ≤ x ∧ x ≤ 2147483647) (kt : x ≠ 0 → n_Run G μ rm Z sc bs cells slots tgt lv st N) (kf : x = 0 → n_Run G μ rm Z sc bs cells slots (pc + 3) lv st N) : n_Run G μ rm Z sc bs cells slots pc lv (mi x :: st) N :=
  fun p e s m args below meth c H locs b A ls C hP hD hS hA h9 hl => lv_if_ne C.1 C.2.1 hd ht (fun q => kt ((not_congr (z_eq h0 (by omega : (-2147483648 : Int) ≤ 0 ∧ (0 : Int) ≤ 2147483647))).mp q) p e s m args below meth c H locs b A ls C hP hD hS hA h9 hl) (fun q => kf ((z_eq h0 (by omega : (-2147483648 : Int) ≤ 0 ∧ (0 : Int) ≤ 2147483647)).mp q) p e s m args below meth c H locs b A ls C hP hD hS hA h9 hl)
theorem n_if_lt {x : Int} {off : Int} {tgt : Nat} (hd : decode μ.cc pc = .ok (.ifCond .lt off, 3)) (ht : (pc : Int) + off = (tgt : Int)) (h0 : -2147483648 ≤ x ∧ x ≤ 2147483647) (kt : x < 0 → n_Run G μ rm Z sc bs cells slots tgt lv st N) (kf : ¬ (x < 0) → n_Run G μ rm Z sc bs cells slots (pc + 3) lv st N) : n_Run G μ rm Z sc bs cells slots pc lv (mi x :: st) N :=
  fun p e s m args below meth c H locs b A ls C hP hD hS hA h9 hl => lv_if_lt C.1 C.2.1 hd ht (fun q => kt ((z_lt h0 (by omega : (-2147483648 : Int) ≤ 0 ∧ (0 : Int) ≤ 2147483647)).mp q) p e s m args below meth c H locs b A ls C hP hD hS hA h9 hl) (fun q => kf (fun z => q ((z_lt h0 (by omega : (-2147483648 : Int) ≤ 0 ∧ (0 : Int) ≤ 2147483647)).mpr z)) p e s m args below meth c H locs b A ls C hP hD hS hA h9 hl)
theorem n_if_ge {x : Int} {off : Int} {tgt : Nat} (hd : decode μ.cc pc = .ok (.ifCond .ge off, 3)) (ht : (pc : Int) + off = (tgt : Int)) (h0 : -2147483648 ≤ x ∧ x ≤ 2147483647) (kt : 0 ≤ x → n_Run G μ rm Z sc bs cells slots tgt lv st N) (kf : ¬ (0 ≤ x) → n_Run G μ rm Z sc bs cells slots (pc + 3) lv st N) : n_Run G μ rm Z sc bs cells slots pc lv (mi x :: st) N :=
  fun p e s m args below meth c H locs b A ls C hP hD hS hA h9 hl => lv_if_ge C.1 C.2.1 hd ht (fun q => kt ((z_le (by omega : (-2147483648 : Int) ≤ 0 ∧ (0 : Int) ≤ 2147483647) h0).mp q) p e s m args below meth c H locs b A ls C hP hD hS hA h9 hl) (fun q => kf (fun z => q ((z_le (by omega : (-2147483648 : Int) ≤ 0 ∧ (0 : Int) ≤ 2147483647) h0).mpr z)) p e s m args below meth c H locs b A ls C hP hD hS hA h9 hl)
theorem n_if_gt {x : Int} {off : Int} {tgt : Nat} (hd : decode μ.cc pc = .ok (.ifCond .gt off, 3)) (ht : (pc : Int) + off = (tgt : Int)) (h0 : -2147483648 ≤ x ∧ x ≤ 2147483647) (kt : 0 < x → n_Run G μ rm Z sc bs cells slots tgt lv st N) (kf : ¬ (0 < x) → n_Run G μ rm Z sc bs cells slots (pc + 3) lv st N) : n_Run G μ rm Z sc bs cells slots pc lv (mi x :: st) N :=
  fun p e s m args below meth c H locs b A ls C hP hD hS hA h9 hl => lv_if_gt C.1 C.2.1 hd ht (fun q => kt ((z_lt (by omega : (-2147483648 : Int) ≤ 0 ∧ (0 : Int) ≤ 2147483647) h0).mp q) p e s m args below meth c H locs b A ls C hP hD hS hA h9 hl) (fun q => kf (fun z => q ((z_lt (by omega : (-2147483648 : Int) ≤ 0 ∧ (0 : Int) ≤ 2147483647) h0).mpr z)) p e s m args below meth c H locs b A ls C hP hD hS hA h9 hl)
theorem n_if_le {x : Int} {off : Int} {tgt : Nat} (hd : decode μ.cc pc = .ok (.ifCond .le off, 3)) (ht : (pc : Int) + off = (tgt : Int)) (h0 : -2147483648 ≤ x ∧ x ≤ 2147483647) (kt : x ≤ 0 → n_Run G μ rm Z sc bs cells slots tgt lv st N) (kf : ¬ (x ≤ 0) → n_Run G μ rm Z sc bs cells slots (pc + 3) lv st N) : n_Run G μ rm Z sc bs cells slots pc lv (mi x :: st) N :=
  fun p e s m args below meth c H locs b A ls C hP hD hS hA h9 hl => lv_if_le C.1 C.2.1 hd ht (fun q => kt ((z_le h0 (by omega : (-2147483648 : Int) ≤ 0 ∧ (0 : Int) ≤ 2147483647)).mp q) p e s m args below meth c H locs b A ls C hP hD hS hA h9 hl) (fun q => kf (fun z => q ((z_le h0 (by omega : (-2147483648 : Int) ≤ 0 ∧ (0 : Int) ≤ 2147483647)).mpr z)) p e s m args below meth c H locs b A ls C hP hD hS hA h9 hl)
theorem n_ic_eq {x y : Int} {off : Int} {tgt : Nat} (hd : decode μ.cc pc = .ok (.if_icmp .eq off, 3)) (ht : (pc : Int) + off = (tgt : Int)) (h0 : (-2147483648 ≤ x ∧ x ≤ 2147483647) ∧ -2147483648 ≤ y ∧ y ≤ 2147483647) (kt : x = y → n_Run G μ rm Z sc bs cells slots tgt lv st N) (kf : ¬ (x = y) → n_Run G μ rm Z sc bs cells slots (pc + 3) lv st N) : n_Run G μ rm Z sc bs cells slots pc lv (mi y :: mi x :: st) N :=
  fun p e s m args below meth c H locs b A ls C hP hD hS hA h9 hl => lv_icmp_eq C.1 C.2.1 hd ht (fun q => kt ((z_eq h0.1 h0.2).mp q) p e s m args below meth c H locs b A ls C hP hD hS hA h9 hl) (fun q => kf (fun z => q ((z_eq h0.1 h0.2).mpr z)) p e s m args below meth c H locs b A ls C hP hD hS hA h9 hl)
theorem n_ic_ne {x y : Int} {off : Int} {tgt : Nat} (hd : decode μ.cc pc = .ok (.if_icmp .ne off, 3)) (ht : (pc : Int) + off = (tgt : Int)) (h0 : (-2147483648 ≤ x ∧ x ≤ 2147483647) ∧ -2147483648 ≤ y ∧ y ≤ 2147483647) (kt : x ≠ y → n_Run G μ rm Z sc bs cells slots tgt lv st N) (kf : x = y → n_Run G μ rm Z sc bs cells slots (pc + 3) lv st N) : n_Run G μ rm Z sc bs cells slots pc lv (mi y :: mi x :: st) N :=
  fun p e s m args below meth c H locs b A ls C hP hD hS hA h9 hl => lv_icmp_ne C.1 C.2.1 hd ht (fun q => kt ((not_congr (z_eq h0.1 h0.2)).mp q) p e s m args below meth c H locs b A ls C hP hD hS hA h9 hl) (fun q => kf ((z_eq h0.1 h0.2).mp q) p e s m args below meth c H locs b A ls C hP hD hS hA h9 hl)
theorem n_ic_lt {x y : Int} {off : Int} {tgt : Nat} (hd : decode μ.cc pc = .ok (.if_icmp .lt off, 3)) (ht : (pc : Int) + off = (tgt : Int)) (h0 : (-2147483648 ≤ x ∧ x ≤ 2147483647) ∧ -2147483648 ≤ y ∧ y ≤ 2147483647) (kt : x < y → n_Run G μ rm Z sc bs cells slots tgt lv st N) (kf : ¬ (x < y) → n_Run G μ rm Z sc bs cells slots (pc + 3) lv st N) : n_Run G μ rm Z sc bs cells slots pc lv (mi y :: mi x :: st) N :=
  fun p e s m args below meth c H locs b A ls C hP hD hS hA h9 hl => lv_icmp_lt C.1 C.2.1 hd ht (fun q => kt ((z_lt h0.1 h0.2).mp q) p e s m args below meth c H locs b A ls C hP hD hS hA h9 hl) (fun q => kf (fun z => q ((z_lt h0.1 h0.2).mpr z)) p e s m args below meth c H locs b A ls C hP hD hS hA h9 hl)
theorem n_ic_ge {x y : Int} {off : Int} {tgt : Nat} (hd : decode μ.cc pc = .ok (.if_icmp .ge off, 3)) (ht : (pc : Int) + off = (tgt : Int)) (h0 : (-2147483648 ≤ x ∧ x ≤ 2147483647) ∧ -2147483648 ≤ y ∧ y ≤ 2147483647) (kt : y ≤ x → n_Run G μ rm Z sc bs cells slots tgt lv st N) (kf : ¬ (y ≤ x) → n_Run G μ rm Z sc bs cells slots (pc + 3) lv st N) : n_Run G μ rm Z sc bs cells slots pc lv (mi y :: mi x :: st) N :=
  fun p e s m args below meth c H locs b A ls C hP hD hS hA h9 hl => lv_icmp_ge C.1 C.2.1 hd ht (fun q => kt ((z_le h0.2 h0.1).mp q) p e s m args below meth c H locs b A ls C hP hD hS hA h9 hl) (fun q => kf (fun z => q ((z_le h0.2 h0.1).mpr z)) p e s m args below meth c H locs b A ls C hP hD hS hA h9 hl)
theorem n_ic_gt {x y : Int} {off : Int} {tgt : Nat} (hd : decode μ.cc pc = .ok (.if_icmp .gt off, 3)) (ht : (pc : Int) + off = (tgt : Int)) (h0 : (-2147483648 ≤ x ∧ x ≤ 2147483647) ∧ -2147483648 ≤ y ∧ y ≤ 2147483647) (kt : y < x → n_Run G μ rm Z sc bs cells slots tgt lv st N) (kf : ¬ (y < x) → n_Run G μ rm Z sc bs cells slots (pc + 3) lv st N) : n_Run G μ rm Z sc bs cells slots pc lv (mi y :: mi x :: st) N :=
  fun p e s m args below meth c H locs b A ls C hP hD hS hA h9 hl => lv_icmp_gt C.1 C.2.1 hd ht (fun q => kt ((z_lt h0.2 h0.1).mp q) p e s m args below meth c H locs b A ls C hP hD hS hA h9 hl) (fun q => kf (fun z => q ((z_lt h0.2 h0.1).mpr z)) p e s m args below meth c H locs b A ls C hP hD hS hA h9 hl)
theorem n_ic_le {x y : Int} {off : Int} {tgt : Nat} (hd : decode μ.cc pc = .ok (.if_icmp .le off, 3)) (ht : (pc : Int) + off = (tgt : Int)) (h0 : (-2147483648 ≤ x ∧ x ≤ 2147483647) ∧ -2147483648 ≤ y ∧ y ≤ 2147483647) (kt : x ≤ y → n_Run G μ rm Z sc bs cells slots tgt lv st N) (kf : ¬ (x ≤ y) → n_Run G μ rm Z sc bs cells slots (pc + 3) lv st N) : n_Run G μ rm Z sc bs cells slots pc lv (mi y :: mi x :: st) N :=
  fun p e s m args below meth c H locs b A ls C hP hD hS hA h9 hl => lv_icmp_le C.1 C.2.1 hd ht (fun q => kt ((z_le h0.1 h0.2).mp q) p e s m args below meth c H locs b A ls C hP hD hS hA h9 hl) (fun q => kf (fun z => q ((z_le h0.1 h0.2).mpr z)) p e s m args below meth c H locs b A ls C hP hD hS hA h9 hl)
theorem n_lcmp {x y : Int} (hd : decode μ.cc pc = .ok (.lcmp, 1)) (h0 : (-9223372036854775808 ≤ x ∧ x ≤ 9223372036854775807) ∧ -9223372036854775808 ≤ y ∧ y ≤ 9223372036854775807) (k : n_Run G μ rm Z sc bs cells slots (pc + 1) lv (mi (z_cmp x y) :: st) N) : n_Run G μ rm Z sc bs cells slots pc lv (ml y :: ml x :: st) N :=
  n_lift (fun hx hb k => W.lcmp hx hb hd (by
    have e : lg_cmp (Int64.ofInt x) (Int64.ofInt y) = Int32.ofInt (z_cmp x y) := by
      have h1 := z_ltL h0.1 h0.2
      have h2 := z_eqL h0.1 h0.2
      have h3 := z_ltL h0.2 h0.1
      unfold lg_cmp z_cmp
      by_cases q : x < y
      · have r : ¬ y < x := by omega
        have t : ¬ x = y := by omega
        simp [h1, h2, h3, q, r, t]
      · by_cases r : x = y
        · subst r
          simp
        · have t : y < x := by omega
          simp [h1, h2, h3, q, r, t]
    rw [e]; exact k)) k
theorem n_lc_eq {x y : Int} {off : Int} {tgt : Nat} (hd : decode μ.cc pc = .ok (.lcmp, 1)) (hd2 : decode μ.cc (pc + 1) = .ok (.ifCond .eq off, 3)) (ht : ((pc + 1 : Nat) : Int) + off = (tgt : Int)) (h0 : (-9223372036854775808 ≤ x ∧ x ≤ 9223372036854775807) ∧ -9223372036854775808 ≤ y ∧ y ≤ 9223372036854775807) (kt : x = y → n_Run G μ rm Z sc bs cells slots tgt lv st N) (kf : ¬ (x = y) → n_Run G μ rm Z sc bs cells slots (pc + 4) lv st N) : n_Run G μ rm Z sc bs cells slots pc lv (ml y :: ml x :: st) N :=
  n_lcmp hd h0 (n_if_eq hd2 ht (z_cmp_rng x y) (fun q => kt (z_cmp_eq.mp q)) (fun q => kf (fun z => q (z_cmp_eq.mpr z))))
theorem n_lc_ne {x y : Int} {off : Int} {tgt : Nat} (hd : decode μ.cc pc = .ok (.lcmp, 1)) (hd2 : decode μ.cc (pc + 1) = .ok (.ifCond .ne off, 3)) (ht : ((pc + 1 : Nat) : Int) + off = (tgt : Int)) (h0 : (-9223372036854775808 ≤ x ∧ x ≤ 9223372036854775807) ∧ -9223372036854775808 ≤ y ∧ y ≤ 9223372036854775807) (kt : x ≠ y → n_Run G μ rm Z sc bs cells slots tgt lv st N) (kf : x = y → n_Run G μ rm Z sc bs cells slots (pc + 4) lv st N) : n_Run G μ rm Z sc bs cells slots pc lv (ml y :: ml x :: st) N :=
  n_lcmp hd h0 (n_if_ne hd2 ht (z_cmp_rng x y) (fun q => kt (z_cmp_ne.mp q)) (fun q => kf (z_cmp_eq.mp q)))
theorem n_lc_lt {x y : Int} {off : Int} {tgt : Nat} (hd : decode μ.cc pc = .ok (.lcmp, 1)) (hd2 : decode μ.cc (pc + 1) = .ok (.ifCond .lt off, 3)) (ht : ((pc + 1 : Nat) : Int) + off = (tgt : Int)) (h0 : (-9223372036854775808 ≤ x ∧ x ≤ 9223372036854775807) ∧ -9223372036854775808 ≤ y ∧ y ≤ 9223372036854775807) (kt : x < y → n_Run G μ rm Z sc bs cells slots tgt lv st N) (kf : ¬ (x < y) → n_Run G μ rm Z sc bs cells slots (pc + 4) lv st N) : n_Run G μ rm Z sc bs cells slots pc lv (ml y :: ml x :: st) N :=
  n_lcmp hd h0 (n_if_lt hd2 ht (z_cmp_rng x y) (fun q => kt (z_cmp_lt.mp q)) (fun q => kf (fun z => q (z_cmp_lt.mpr z))))
theorem n_lc_ge {x y : Int} {off : Int} {tgt : Nat} (hd : decode μ.cc pc = .ok (.lcmp, 1)) (hd2 : decode μ.cc (pc + 1) = .ok (.ifCond .ge off, 3)) (ht : ((pc + 1 : Nat) : Int) + off = (tgt : Int)) (h0 : (-9223372036854775808 ≤ x ∧ x ≤ 9223372036854775807) ∧ -9223372036854775808 ≤ y ∧ y ≤ 9223372036854775807) (kt : y ≤ x → n_Run G μ rm Z sc bs cells slots tgt lv st N) (kf : ¬ (y ≤ x) → n_Run G μ rm Z sc bs cells slots (pc + 4) lv st N) : n_Run G μ rm Z sc bs cells slots pc lv (ml y :: ml x :: st) N :=
  n_lcmp hd h0 (n_if_ge hd2 ht (z_cmp_rng x y) (fun q => kt (z_cmp_ge.mp q)) (fun q => kf (fun z => q (z_cmp_ge.mpr z))))
theorem n_lc_gt {x y : Int} {off : Int} {tgt : Nat} (hd : decode μ.cc pc = .ok (.lcmp, 1)) (hd2 : decode μ.cc (pc + 1) = .ok (.ifCond .gt off, 3)) (ht : ((pc + 1 : Nat) : Int) + off = (tgt : Int)) (h0 : (-9223372036854775808 ≤ x ∧ x ≤ 9223372036854775807) ∧ -9223372036854775808 ≤ y ∧ y ≤ 9223372036854775807) (kt : y < x → n_Run G μ rm Z sc bs cells slots tgt lv st N) (kf : ¬ (y < x) → n_Run G μ rm Z sc bs cells slots (pc + 4) lv st N) : n_Run G μ rm Z sc bs cells slots pc lv (ml y :: ml x :: st) N :=
  n_lcmp hd h0 (n_if_gt hd2 ht (z_cmp_rng x y) (fun q => kt (z_cmp_gt.mp q)) (fun q => kf (fun z => q (z_cmp_gt.mpr z))))
theorem n_lc_le {x y : Int} {off : Int} {tgt : Nat} (hd : decode μ.cc pc = .ok (.lcmp, 1)) (hd2 : decode μ.cc (pc + 1) = .ok (.ifCond .le off, 3)) (ht : ((pc + 1 : Nat) : Int) + off = (tgt : Int)) (h0 : (-9223372036854775808 ≤ x ∧ x ≤ 9223372036854775807) ∧ -9223372036854775808 ≤ y ∧ y ≤ 9223372036854775807) (kt : x ≤ y → n_Run G μ rm Z sc bs cells slots tgt lv st N) (kf : ¬ (x ≤ y) → n_Run G μ rm Z sc bs cells slots (pc + 4) lv st N) : n_Run G μ rm Z sc bs cells slots pc lv (ml y :: ml x :: st) N :=
  n_lcmp hd h0 (n_if_le hd2 ht (z_cmp_rng x y) (fun q => kt (z_cmp_le.mp q)) (fun q => kf (fun z => q (z_cmp_le.mpr z))))
/-! arrays, the script -/
theorem n_iald {i r n : Nat} {x : Int} (hd : decode μ.cc pc = .ok (.iaload, 1)) (hb : bs[i]? = some (r, [.inr (0, n)])) (hi : 0 ≤ x ∧ x < n ∧ x ≤ 2147483647)
    (kk : n_Run G μ rm Z sc bs cells slots (pc + 1) lv (mi ((N i).1 0 x) :: st) N) : n_Run G μ rm Z sc bs cells slots pc lv (mi x :: mr r :: st) N :=
  n_liftC (fun {p l e R s m args below meth c H locs b ls Q} C hP _ k => va_iald (a := b + r) C.1 C.2.1 C.2.2.2.2.2.2.2.2.1 (hP i _ hb) 0 0 (m_ws_at (sh := [.inr (0, n)]) (a := 0) rfl) rfl (z_in hi).1 hd (by show W _ _ _ _ _ _ _ _ _ _ _ _ _ _ _ (F0 _ _ _ (.int (Int32.ofInt ((N i).1 0 _)) :: _)); rw [(z_in hi).2]; exact k)) kk
theorem n_ialdv {i r n : Nat} {x z : Int} (hd : decode μ.cc pc = .ok (.iaload, 1)) (hb : bs[i]? = some (r, [.inr (0, n)])) (hi : 0 ≤ x ∧ x < n ∧ x ≤ 2147483647) (hv : (N i).1 0 x = z)
    (kk : n_Run G μ rm Z sc bs cells slots (pc + 1) lv (mi z :: st) N) : n_Run G μ rm Z sc bs cells slots pc lv (mi x :: mr r :: st) N :=
  n_iald hd hb hi (by rw [hv]; exact kk)
theorem n_mod {x y : Int} (hd : decode μ.cc pc = .ok (.irem, 1)) (hx : 0 ≤ x ∧ x ≤ 2147483647) (hy : 0 < y ∧ y ≤ 2147483647) (k : n_Run G μ rm Z sc bs cells slots (pc + 1) lv (mi (x % y) :: st) N) : n_Run G μ rm Z sc bs cells slots pc lv (mi y :: mi x :: st) N :=
  n_irem hd (by omega) hy (by rw [Int.tmod_eq_emod_of_nonneg hx.1]; exact k)
def n_up (N : NM) (i : Nat) (M : MM) : NM := fun j => if j = i then M else N j
theorem n_up_eq (N : NM) (i : Nat) (M : MM) : n_up N i M i = M := if_pos rfl
theorem n_up_ne (N : NM) {i j : Nat} (M : MM) (h : j ≠ i) : n_up N i M j = N j := if_neg h
/-- behind a change of one block -/
theorem n_P_up {b i : Nat} {q : Nat × MS} {M : MM} {H H1 : Heap} (hap : n_ap bs) (hP : n_P G b bs N H) (hb : bs[i]? = some q) (h1 : va_P G.2.1 vwCl (m_ws G (b + q.1) q.2 M) H1) (ho : ∀ a, a < H.size → (∀ k, k < q.2.length → a ≠ b + q.1 + k) → H1[a]? = H[a]?) : n_P G b bs (n_up N i M) H1 := by
  intro j p hj
  by_cases e : j = i
  · subst e
    rw [hb] at hj
    cases hj
    rw [n_up_eq]
    exact h1
  · rw [n_up_ne _ _ e]
    intro k x hx
    have l1 := (hP j p hj k x hx).lt
    obtain ⟨l2, l3⟩ := n_wsg hx
    refine (hP j p hj k x hx).kept (ho x.1 l1 (fun k' hk' z => ?_))
    exact hap j i p q hj hb e k k' l3 hk' (by omega)
theorem n_iast {i r n : Nat} {x v : Int} (hd : decode μ.cc pc = .ok (.iastore, 1)) (hap : n_ap bs) (hb : bs[i]? = some (r, [.inr (0, n)])) (hi : 0 ≤ x ∧ x < n ∧ x ≤ 2147483647)
    (kk : n_Run G μ rm Z sc bs cells slots (pc + 1) lv st (n_up N i (m_sI (N i) 0 x v))) : n_Run G μ rm Z sc bs cells slots pc lv (mi v :: mi x :: mr r :: st) N := by
  intro p e s m args below meth c' H locs b A ls C hP hD hS hA ht hl
  have hc : ([.inr (0, n)] : MS)[0]? = some (.inr (0, n)) := rfl
  have hA0 : A (b + r + 0) := hD.1 i _ hb 0 (Nat.one_pos)
  have hDi : va_D A (m_ws G (b + r) [.inr (0, n)] (N i)) := n_wsD (fun k hk => hD.1 i _ hb k hk)
  refine W.iast (a := b + r) C.1 C.2.1 (hP i _ hb 0 _ (m_ws_at hc)) ((C.2.2.2.2.2.2.2.2.1.2 0 _ rfl).1 n _) (fun q => by cases q) (by show ¬ (_ < 0 ∨ (arrV _ _ _).slots.size ≤ _); rw [arrV_size]; exact (z_in hi).1) rfl rfl hd fun H1 e1 z oq => ?_
  obtain ⟨hP1, -⟩ := m_P_set (M' := m_sI (N i) 0 x v) (hP i _ hb) hDi hc (H1 := H1) (by
    show H1[b + r + 0]? = some (vp_cell (G.2.2 0) (n, .inl _))
    show H1[b + r]? = _
    rw [e1, vp_cell_i, vp_cell_i, arrV_store]
    rw [m_updV_I]
    exact congrArg (fun g : Nat → Int32 => some (arrV _ n (fun j => .int (g j)))) (m_updI (f := (N i).1) (a := 0) (x := v) (z_in hi).2).symm) (fun c d' h _ => m_en_I h d') oq
  refine kk p e s m args below meth c' H1 _ b A ls C (n_P_up hap hP hb hP1 (fun a _ ha => oq a (ha 0 Nat.one_pos))) hD (hS.put z oq hA0) hA ht hl
/-- a write, the memory behind it named -/
theorem n_iasv {i r n : Nat} {x v : Int} (hd : decode μ.cc pc = .ok (.iastore, 1)) (hap : n_ap bs) (hb : bs[i]? = some (r, [.inr (0, n)])) (hi : 0 ≤ x ∧ x < n ∧ x ≤ 2147483647)
    (kk : ∀ K : NM, (∀ y, (K i).1 0 y = if y = x then v else (N i).1 0 y) → (∀ j, j ≠ i → K j = N j) → n_Run G μ rm Z sc bs cells slots (pc + 1) lv st K) : n_Run G μ rm Z sc bs cells slots pc lv (mi v :: mi x :: mr r :: st) N :=
  n_iast hd hap hb hi (kk _ (fun y => by rw [n_up_eq]; show m_up (N i).1 0 x v 0 y = _; unfold m_up; simp) (fun j hj => n_up_ne _ _ hj))
theorem n_sld {a L : Nat} {xs : Nat → Int32} {x : Int} (hd : decode μ.cc pc = .ok (.iaload, 1)) (hs : sc = some (a, L, xs)) (hi : 0 ≤ x ∧ x < L ∧ x ≤ 2147483647)
    (kk : ∀ z : Int, rI z → n_Run G μ rm Z sc bs cells slots (pc + 1) lv (mi z :: st) N) : n_Run G μ rm Z sc bs cells slots pc lv (mi x :: mr a :: st) N := by
  intro p e s m args below meth c H locs b A ls C hP hD hS hA ht hl
  have hX := hD.2
  rw [hs] at hX
  obtain ⟨x1, x2, x3⟩ := hX
  refine va_sld C.1 C.2.1 x1 x2 x3 hS (z_in hi).1 hd ?_
  have k := kk (xs (Int32.ofInt x).toNatClampNeg).toInt (z_rng _) p e s m args below meth c H locs b A ls C hP hD hS hA ht hl
  have e1 : m_tv b (mi (xs (Int32.ofInt x).toNatClampNeg).toInt) = .int (xs (Int32.ofInt x).toNatClampNeg) := congrArg Value.int (Int32.ofInt_toInt _)
  rw [List.map_cons, e1] at k
  exact k
theorem n_slen {a L : Nat} {xs : Nat → Int32} (hd : decode μ.cc pc = .ok (.arraylength, 1)) (hs : sc = some (a, L, xs)) 
    (kk : n_Run G μ rm Z sc bs cells slots (pc + 1) lv (mi (L : Int) :: st) N) : n_Run G μ rm Z sc bs cells slots pc lv (mr a :: st) N := by
  intro p e s m args below meth c H locs b A ls C hP hD hS hA ht hl
  have hX := hD.2
  rw [hs] at hX
  obtain ⟨x1, x2, x3⟩ := hX
  refine va_slen C.1 C.2.1 x1 x2 x3 hS hd ?_
  have k := kk p e s m args below meth c H locs b A ls C hP hD hS hA ht hl
  rw [List.map_cons, show m_tv b (mi (L : Int)) = .int (Int32.ofNat L) from congrArg Value.int Int32.ofInt_eq_ofNat] at k
  exact k
/-! contracts of the law's own methods -/
def n_own (b : Nat) (bs : NB) (sz : Nat) (q : Nat) : Prop := (∃ (i : Nat) (p : Nat × MS) (k : Nat), bs[i]? = some p ∧ k < p.2.length ∧ q = b + p.1 + k) ∨ sz ≤ q
def n_Qc (G : GT) (b : Nat) (bs : NB) (Qf : Option MV → NM → Prop) (A : Nat → Prop) : Array Value → State → Outcome → State → Prop := fun _ st oc t =>
  ∃ (v : Option MV) (N : NM), oc = .returned (v.map (m_tv b)) ∧ Qf v N ∧ n_P G b bs N t.heap ∧ va_F A st t
def n_XU (sc : NC) (b : Nat) (U : State) : Prop := match sc with
  | none => True
  | some x => va_X (b + x.1) x.2.1 x.2.2 U U.heap ∧ b + x.1 < U.heap.size
def n_Spec (G : GT) (μ : MT) (sc : NC) (as : List MV) (bs : NB) (N : NM) (Qf : Option MV → NM → Prop) : Prop :=
  ∀ (b sz : Nat), Met G.1 μ.y μ.ws μ.rm (va_Pc (as.map (m_tv b)) (fun U => U.heap.size = sz ∧ n_P G b bs N U.heap ∧ m_KK G U ∧ n_XU sc b U))
    (n_Qc G b bs Qf (n_own b bs sz)) μ.mc μ.ms (n_own b bs sz)
/-- how a contract's run ends -/
def n_Zc (G : GT) (μ : MT) (bs : NB) (Qf : Option MV → NM → Prop) : NZ := (fun _ _ => True, fun b A below args s => MQ below (n_Qc G b bs Qf A) args s μ.mc μ.ms A)
theorem n_Spec.of {as : List MV} {Qf : Option MV → NM → Prop} (hp : plainName μ.y.cls = true) (hw : Nat.ble (m_wid as) μ.nL = true) (has : n_as sc bs)
    (h : n_Run G μ μ.rm (n_Zc G μ bs Qf) sc bs 0 0 0 (m_args 0 as) [] N) : n_Spec G μ sc as bs N Qf := by
  intro b sz
  refine Met.ofW (cc := μ.cc) (maxL := μ.nL) (ret := μ.ret) hp rfl ?_
  intro p e s m args below meth c s₁ B hml hv
  obtain ⟨rfl, hsz, hP, hK, hX⟩ := hv
  have hts := atoms_spec (ws := μ.ws) B.pre
  have hown : s.vm.findClass μ.y.cls = some m.cls := findClass_of_methodNamed B.named
  subst hsz
  have hl := lv_entry (as.map (m_tv b)) (n := μ.nL) (by rw [m_wid_sl]; exact Nat.le_of_ble_eq_true hw)
  rw [lg_entry_eq]
  rw [m_args_tv] at hl
  refine h p e s m _ below meth c s.heap [] b _ _ ⟨B.exec, B.bytes, hml, B.returns, B.notSynchronized, hown, fun w hq => hts w (List.mem_cons_of_mem _ hq), trivial, hK⟩ hP ⟨fun i q hq k hk => Or.inl ⟨i, q, k, hq, hk, rfl⟩, ?_⟩ va_S.rf (fun q hq => Or.inr hq) trivial hl
  cases sc with
  | none => trivial
  | some x =>
    refine ⟨hX.1, hX.2, ?_⟩
    rintro (⟨i, q, k, h1, h2, h3⟩ | h3)
    · exact has i q h1 k h2 (by omega)
    · have := hX.2
      omega
theorem n_end {Qf : Option MV → NM → Prop} {p : Program} {s : State} {m : MethodId} {args : Array Value} {meth : Method} {c : Code} {H : Heap} {locs : List Loc} {b : Nat} {A : Nat → Prop} {v : Option MV} (hP : n_P G b bs N H) (hS : va_S A s.heap H locs) (q : Qf v N) :
    ∀ t : State, t.heap = H → s.WarmedH t.vm → n_Qc G b bs Qf A args s (.returned (v.map (m_tv b))) t :=
  fun t ht _ => ⟨v, N, rfl, q, by rw [ht]; exact hP, hS.F ht⟩
theorem n_iret {Qf : Option MV → NM → Prop} {x : Int} (hd : decode μ.cc pc = .ok (.ireturn, 1)) (hr : μ.ret = some .int) (q : Qf (some (mi x)) N) : n_Run G μ μ.rm (n_Zc G μ bs Qf) sc bs 0 0 pc lv [mi x] N := by
  intro p e s m args below meth c' H locs b A ls C hP hD hS hA ht hl
  exact W.widen (Nat.zero_le _) (Nat.zero_le _) (W.iret C.1 C.2.1 (by rw [C.2.2.2.1]; exact hr) (n_end (p := p) (m := m) (meth := meth) (c := c') hP hS q) hS.2.2 hd (hlocks := C.2.2.2.2.1))
theorem n_zret {Qf : Option MV → NM → Prop} {x : Int} (hd : decode μ.cc pc = .ok (.ireturn, 1)) (hr : μ.ret = some .boolean) (hx : x = 0 ∨ x = 1) (q : Qf (some (mi x)) N) : n_Run G μ μ.rm (n_Zc G μ bs Qf) sc bs 0 0 pc lv [mi x] N := by
  intro p e s m args below meth c' H locs b A ls C hP hD hS hA ht hl
  exact W.widen (Nat.zero_le _) (Nat.zero_le _) (W.zret C.1 C.2.1 (by rw [C.2.2.2.1]; exact hr) (by rcases hx with rfl | rfl <;> rfl) (n_end (p := p) (m := m) (meth := meth) (c := c') hP hS q) hS.2.2 hd (hlocks := C.2.2.2.2.1))
theorem n_vret {Qf : Option MV → NM → Prop} (hd : decode μ.cc pc = .ok (.return_, 1)) (hr : μ.ret = none) (q : Qf none N) : n_Run G μ μ.rm (n_Zc G μ bs Qf) sc bs 0 0 pc lv [] N := by
  intro p e s m args below meth c' H locs b A ls C hP hD hS hA ht hl
  exact W.widen (Nat.zero_le _) (Nat.zero_le _) (W.vret C.1 C.2.1 (by rw [C.2.2.2.1]; exact hr) (n_end (p := p) (m := m) (meth := meth) (c := c') hP hS q) hS.2.2 hd (hlocks := C.2.2.2.2.1))
/-! calls -/
def n_room (rm : Room) (μ' : MT) : Bool := Nat.ble (μ'.fr + 1) rm.frames && Nat.ble (8 + (μ'.nL + 11) + μ'.lo) rm.locals
/-- a call of the class's, on the block i -/
theorem n_callV {i r idx nn : Nat} {μ' : MT} {as st0 : List MV} {Q' : Option MV → MI → MI → MR → Prop} (hd : decode μ.cc pc = .ok (.invokevirtual idx, 3)) (hk : m_LV μ.y.cls idx μ' nn) (hroom : n_room rm μ' = true) (hcls : RX7 = μ'.y.cls) (h0 : μ'.mc = 0 ∧ μ'.ms = 0) (hap : n_ap bs) (hb : bs[i]? = some (r, shX)) (hs : Sp G μ' (mr 0 :: as) shX (N i).1 (N i).2.1 (N i).2.2 Q') (has : ∀ b c : Nat, as.map (m_tv b) = as.map (m_tv c)) (hst : st0 = as.reverse ++ mr r :: st) (hn : as.length = nn) (hw : Nat.ble (m_wid st) 8 = true)
    (hc : cells ≤ rm.cells ∧ slots ≤ rm.slots)
    (kk : ∀ v I' L' R', Q' v I' L' R' → (∀ b c : Nat, v.map (m_tv b) = v.map (m_tv c)) ∧ n_Run G μ rm Z sc bs cells slots (pc + 3) lv (v.toList ++ st) (n_up N i (I', L', R'))) : n_Run G μ rm Z sc bs cells slots pc lv st0 N := by
  intro p e s m args below meth c H locs b A ls C hP hD hS hA ht hl
  obtain ⟨⟨w1, w2, w3, w4, w5⟩, d1, d2, d3⟩ := hk
  simp only [n_room, Bool.and_eq_true] at hroom
  have cw : CallW rm s args μ.y.cls μ'.y.cls idx μ'.y μ'.cc μ'.nL μ'.ret μ'.ws μ'.rm μ'.mc μ'.ms nn := cwV nn C.2.2.2.2.2.2.1 (m_goodIn (by
    intro w hw
    rcases List.mem_append.mp hw with h | h
    · simp only [List.mem_cons, List.not_mem_nil, or_false] at h
      rcases h with rfl | rfl | rfl | rfl <;> assumption
    · rcases List.mem_cons.mp h with rfl | h
      · exact w5
      · exact h)) rfl rfl rfl ⟨rfl, d1, d2, d3⟩ ⟨Nat.le_of_ble_eq_true hroom.1, Nat.le_of_ble_eq_true hroom.2⟩
  have hPi := hP i _ hb
  have hDT : va_D (fun _ => True) (m_ws G (b + r) shX (N i)) := n_wsD (fun _ _ => trivial)
  have hsub : ∀ q, va_A (m_ws G (b + r) shX (N i)) H.size q → A q := by
    rintro q (⟨k, e2, hk⟩ | hq)
    · obtain ⟨l1, l2⟩ := n_wsg hk
      simp only at l1
      rw [l1]
      exact hD.1 i _ hb k l2
    · exact hA q (Nat.le_trans hS.1 hq)
  have run := va_runV (As := as.map (m_tv (b + r))) (rest := st.map (m_tv b)) (b := b + r + 0) (c := c) (cc := μ.cc) (nL := μ.nL) (g := F0 m pc ls (st0.map (m_tv b))) (locs := locs) (cells := cells) (slots := slots) (below := below) (e := e) (p := p) (l := G.1) (meth := meth) ⟨C.1, C.2.1, C.2.2.1, C.2.2.2.2.2.1, C.2.2.2.2.2.2.1⟩ (hs (b + r) H.size) cw ⟨m_blind, by rw [← hcls]; exact va_recv C.2.2.2.2.2.2.2.2.1 hPi (ci := 7) (q0 := 0) rfl (m_ws_at (d := .inl 7) rfl), fun U hU hW => ⟨rfl, by rw [hU], by rw [hU]; exact hPi, (C.2.2.2.2.2.2.2.2).warm hW, hDT, fun h => by cases h⟩⟩ rfl (by rw [List.length_map]; exact hn) hl.1 (by rw [hst, has (b + r) b]; simp [m_tv]) (lv_room (by rw [m_wid_sum]; exact Nat.le_of_ble_eq_true hw)) hd (by rw [h0.1, h0.2]; exact hc)
  intro T hT X
  obtain ⟨v, st₀, t, T', Lc, h0', X', hLc, e1, e2, ⟨v', sh', M', hv, hq, hP', hD', ht', hz, hk'⟩, stp⟩ := run T hT X
  cases hv
  rw [h0'] at hz hk'
  obtain ⟨rfl, hq⟩ := hq
  rw [h0.1, h0.2] at X'
  obtain ⟨hvb, kk⟩ := kk v' M'.1 M'.2.1 M'.2.2 hq
  have hN : n_P G b bs (n_up N i (M'.1, M'.2.1, M'.2.2)) T'.heap := n_P_up hap hP hb (by rw [e1]; exact hP') (fun a ha hne => by
    rw [e1]
    refine hk' a ha ?_
    rintro (⟨k2, e2, hk2⟩ | hq2)
    · obtain ⟨l1, l2⟩ := n_wsg hk2
      exact hne k2 l2 l1
    · omega)
  have K9 := kk p e s m args below meth c T'.heap (locs ++ Lc) b A ls C hN hD ⟨Nat.le_trans hS.1 (by rw [e1]; exact hz), fun q h1 h2 => by rw [e1, hk' q (Nat.lt_of_lt_of_le h1 hS.1) (fun z => h2 (hsub q z))]; exact hS.2.1 q h1 h2, fun q hq => by
      rcases List.mem_append.mp hq with h | h
      · exact hS.2.2 q h
      · exact hsub _ (hLc q h)⟩ hA ht hl
  obtain ⟨t2, a1, b1⟩ := K9 T' rfl X'
  refine ⟨t2, stp t2 ?_, b1⟩
  rw [← m_tv_app, ← hvb (b + r) b] at a1
  exact a1
theorem n_callVi {i r idx nn : Nat} {μ' : MT} {as st0 : List MV} {q : Int → MI → MI → MR → Prop} (hd : decode μ.cc pc = .ok (.invokevirtual idx, 3)) (hk : m_LV μ.y.cls idx μ' nn) (hroom : n_room rm μ' = true) (hcls : RX7 = μ'.y.cls) (h0 : μ'.mc = 0 ∧ μ'.ms = 0) (hap : n_ap bs) (hb : bs[i]? = some (r, shX)) (hs : Sp G μ' (mr 0 :: as) shX (N i).1 (N i).2.1 (N i).2.2 (qi q)) (has : ∀ b c : Nat, as.map (m_tv b) = as.map (m_tv c)) (hst : st0 = as.reverse ++ mr r :: st) (hn : as.length = nn) (hw : Nat.ble (m_wid st) 8 = true) (hc : cells ≤ rm.cells ∧ slots ≤ rm.slots)
    (kk : ∀ z I' L' R', q z I' L' R' → n_Run G μ rm Z sc bs cells slots (pc + 3) lv (mi z :: st) (n_up N i (I', L', R'))) : n_Run G μ rm Z sc bs cells slots pc lv st0 N :=
  n_callV hd hk hroom hcls h0 hap hb hs has hst hn hw hc (fun v I' L' R' ⟨z, hv, hq⟩ => by subst hv; exact ⟨fun _ _ => rfl, kk z I' L' R' hq⟩)
theorem n_callVl {i r idx nn : Nat} {μ' : MT} {as st0 : List MV} {q : Int → MI → MI → MR → Prop} (hd : decode μ.cc pc = .ok (.invokevirtual idx, 3)) (hk : m_LV μ.y.cls idx μ' nn) (hroom : n_room rm μ' = true) (hcls : RX7 = μ'.y.cls) (h0 : μ'.mc = 0 ∧ μ'.ms = 0) (hap : n_ap bs) (hb : bs[i]? = some (r, shX)) (hs : Sp G μ' (mr 0 :: as) shX (N i).1 (N i).2.1 (N i).2.2 (ql q)) (has : ∀ b c : Nat, as.map (m_tv b) = as.map (m_tv c)) (hst : st0 = as.reverse ++ mr r :: st) (hn : as.length = nn) (hw : Nat.ble (m_wid st) 8 = true) (hc : cells ≤ rm.cells ∧ slots ≤ rm.slots)
    (kk : ∀ z I' L' R', q z I' L' R' → n_Run G μ rm Z sc bs cells slots (pc + 3) lv (ml z :: st) (n_up N i (I', L', R'))) : n_Run G μ rm Z sc bs cells slots pc lv st0 N :=
  n_callV hd hk hroom hcls h0 hap hb hs has hst hn hw hc (fun v I' L' R' ⟨z, hv, hq⟩ => by subst hv; exact ⟨fun _ _ => rfl, kk z I' L' R' hq⟩)
/-- a call of the class's, the memory behind it named; one that only tells -/
theorem n_callWi {i r idx nn : Nat} {μ' : MT} {as st0 : List MV} {q : Int → MI → MI → MR → Prop} (hd : decode μ.cc pc = .ok (.invokevirtual idx, 3)) (hk : m_LV μ.y.cls idx μ' nn) (hroom : n_room rm μ' = true) (hcls : RX7 = μ'.y.cls) (h0 : μ'.mc = 0 ∧ μ'.ms = 0) (hap : n_ap bs) (hb : bs[i]? = some (r, shX)) (hs : Sp G μ' (mr 0 :: as) shX (N i).1 (N i).2.1 (N i).2.2 (qi q)) (has : ∀ b c : Nat, as.map (m_tv b) = as.map (m_tv c)) (hst : st0 = as.reverse ++ mr r :: st) (hn : as.length = nn) (hw : Nat.ble (m_wid st) 8 = true) (hc : cells ≤ rm.cells ∧ slots ≤ rm.slots)
    (kk : ∀ z (K : NM), q z (K i).1 (K i).2.1 (K i).2.2 → (∀ j, j ≠ i → K j = N j) → n_Run G μ rm Z sc bs cells slots (pc + 3) lv (mi z :: st) K) : n_Run G μ rm Z sc bs cells slots pc lv st0 N :=
  n_callVi hd hk hroom hcls h0 hap hb hs has hst hn hw hc (fun z I' L' R' hq => kk z _ (by rw [n_up_eq]; exact hq) (fun j hj => n_up_ne _ _ hj))
theorem n_same (N : NM) (i : Nat) : n_up N i ((N i).1, (N i).2.1, (N i).2.2) = N := by
  funext j
  unfold n_up
  split
  · rename_i h; rw [h]
  · rfl
theorem n_callGi {i r idx nn : Nat} {μ' : MT} {as st0 : List MV} {e : Int} (hd : decode μ.cc pc = .ok (.invokevirtual idx, 3)) (hk : m_LV μ.y.cls idx μ' nn) (hroom : n_room rm μ' = true) (hcls : RX7 = μ'.y.cls) (h0 : μ'.mc = 0 ∧ μ'.ms = 0) (hap : n_ap bs) (hb : bs[i]? = some (r, shX)) (hs : Sp G μ' (mr 0 :: as) shX (N i).1 (N i).2.1 (N i).2.2 (qi (fun z I' L' R' => z = e ∧ I' = (N i).1 ∧ L' = (N i).2.1 ∧ R' = (N i).2.2))) (has : ∀ b c : Nat, as.map (m_tv b) = as.map (m_tv c)) (hst : st0 = as.reverse ++ mr r :: st) (hn : as.length = nn) (hw : Nat.ble (m_wid st) 8 = true) (hc : cells ≤ rm.cells ∧ slots ≤ rm.slots)
    (kk : n_Run G μ rm Z sc bs cells slots (pc + 3) lv (mi e :: st) N) : n_Run G μ rm Z sc bs cells slots pc lv st0 N :=
  n_callVi hd hk hroom hcls h0 hap hb hs has hst hn hw hc (fun z I' L' R' hq => by obtain ⟨rfl, rfl, rfl, rfl⟩ := hq; rw [n_same]; exact kk)
theorem n_callGl {i r idx nn : Nat} {μ' : MT} {as st0 : List MV} {e : Int} (hd : decode μ.cc pc = .ok (.invokevirtual idx, 3)) (hk : m_LV μ.y.cls idx μ' nn) (hroom : n_room rm μ' = true) (hcls : RX7 = μ'.y.cls) (h0 : μ'.mc = 0 ∧ μ'.ms = 0) (hap : n_ap bs) (hb : bs[i]? = some (r, shX)) (hs : Sp G μ' (mr 0 :: as) shX (N i).1 (N i).2.1 (N i).2.2 (ql (fun z I' L' R' => z = e ∧ I' = (N i).1 ∧ L' = (N i).2.1 ∧ R' = (N i).2.2))) (has : ∀ b c : Nat, as.map (m_tv b) = as.map (m_tv c)) (hst : st0 = as.reverse ++ mr r :: st) (hn : as.length = nn) (hw : Nat.ble (m_wid st) 8 = true) (hc : cells ≤ rm.cells ∧ slots ≤ rm.slots)
    (kk : n_Run G μ rm Z sc bs cells slots (pc + 3) lv (ml e :: st) N) : n_Run G μ rm Z sc bs cells slots pc lv st0 N :=
  n_callVl hd hk hroom hcls h0 hap hb hs has hst hn hw hc (fun z I' L' R' hq => by obtain ⟨rfl, rfl, rfl, rfl⟩ := hq; rw [n_same]; exact kk)
/-- two answers alike -/
theorem n_neF {x y off : Int} {tgt : Nat} (hd : decode μ.cc pc = .ok (.if_icmp .ne off, 3)) (ht : (pc : Int) + off = (tgt : Int)) (he : x = y) (k : n_Run G μ rm Z sc bs cells slots (pc + 3) lv st N) : n_Run G μ rm Z sc bs cells slots pc lv (mi y :: mi x :: st) N :=
  fun p e s m args below meth c H locs b A ls C hP hD hS hA h9 hl => lv_icmp_ne C.1 C.2.1 hd ht (fun q => absurd (by rw [he]) q) (fun _ => k p e s m args below meth c H locs b A ls C hP hD hS hA h9 hl)
theorem n_eqT {x y off : Int} {tgt : Nat} (hd : decode μ.cc pc = .ok (.if_icmp .eq off, 3)) (ht : (pc : Int) + off = (tgt : Int)) (he : x = y) (k : n_Run G μ rm Z sc bs cells slots tgt lv st N) : n_Run G μ rm Z sc bs cells slots pc lv (mi y :: mi x :: st) N :=
  fun p e s m args below meth c H locs b A ls C hP hD hS hA h9 hl => lv_icmp_eq C.1 C.2.1 hd ht (fun _ => k p e s m args below meth c H locs b A ls C hP hD hS hA h9 hl) (fun q => absurd (by rw [he]) q)
theorem n_lcz {x y : Int} (hd : decode μ.cc pc = .ok (.lcmp, 1)) (he : x = y) (k : n_Run G μ rm Z sc bs cells slots (pc + 1) lv (mi 0 :: st) N) : n_Run G μ rm Z sc bs cells slots pc lv (ml y :: ml x :: st) N := by
  subst he
  exact n_lift (fun hx hb k => W.lcmp hx hb hd (by
    have e : lg_cmp (Int64.ofInt x) (Int64.ofInt x) = Int32.ofInt 0 := by simp [lg_cmp]
    rw [e]; exact k)) k
theorem n_lneF {x y off : Int} {tgt : Nat} (hd : decode μ.cc pc = .ok (.lcmp, 1)) (hd2 : decode μ.cc (pc + 1) = .ok (.ifCond .ne off, 3)) (ht : ((pc + 1 : Nat) : Int) + off = (tgt : Int)) (he : x = y) (k : n_Run G μ rm Z sc bs cells slots (pc + 4) lv st N) : n_Run G μ rm Z sc bs cells slots pc lv (ml y :: ml x :: st) N :=
  n_lcz hd he (n_if_ne hd2 ht (by omega) (fun q => absurd rfl q) (fun _ => k))
theorem n_leqT {x y off : Int} {tgt : Nat} (hd : decode μ.cc pc = .ok (.lcmp, 1)) (hd2 : decode μ.cc (pc + 1) = .ok (.ifCond .eq off, 3)) (ht : ((pc + 1 : Nat) : Int) + off = (tgt : Int)) (he : x = y) (k : n_Run G μ rm Z sc bs cells slots tgt lv st N) : n_Run G μ rm Z sc bs cells slots pc lv (ml y :: ml x :: st) N :=
  n_lcz hd he (n_if_eq hd2 ht (by omega) (fun _ => k) (fun q => absurd rfl q))
theorem n_blind {sc' : NC} {bs' : NB} {N' : NM} {b sz : Nat} {as : List MV} : FrameBlind (va_Pc (as.map (m_tv b)) (fun U => U.heap.size = sz ∧ n_P G b bs' N' U.heap ∧ m_KK G U ∧ n_XU sc' b U)) :=
  fun a U g mk q => by
    obtain ⟨q0, q1, q2, q3, q4⟩ := q
    refine ⟨q0, q1, q2, q3.same rfl, ?_⟩
    cases sc' with
    | none => trivial
    | some x => exact q4
/-- a call of the law's own, on some of the blocks (ix), with the script or without it -/
theorem n_callS {ix : Nat → Nat} {bs' : NB} {sc' : NC} {idx nn : Nat} {μ' : MT} {as st0 : List MV} {Q' : Option MV → NM → Prop} (hd : decode μ.cc pc = .ok (.invokestatic idx, 3)) (hk : m_LS μ.y.cls idx μ' nn) (hroom : n_room rm μ' = true) (h0 : μ'.mc = 0 ∧ μ'.ms = 0) (hap : n_ap bs) (hb : ∀ j p, bs'[j]? = some p → bs[ix j]? = some p) (hsc : sc' = none ∨ sc' = sc) (hs : n_Spec G μ' sc' as bs' (fun j => N (ix j)) Q') (hinj : ∀ i j, i < bs'.length → j < bs'.length → ix i = ix j → i = j) (hst : st0 = as.reverse ++ st) (hn : as.length = nn) (hw : Nat.ble (m_wid st) 8 = true) (hc : cells ≤ rm.cells ∧ slots ≤ rm.slots)
    (kk : ∀ v Nc, Q' v Nc → ∀ N', (∀ j, j < bs'.length → N' (ix j) = Nc j) → (∀ i, (∀ j, j < bs'.length → ix j ≠ i) → N' i = N i) → n_Run G μ rm Z sc bs cells slots (pc + 3) lv (v.toList ++ st) N') : n_Run G μ rm Z sc bs cells slots pc lv st0 N := by
  intro p e s m args below meth c H locs b A ls C hP hD hS hA ht hl
  obtain ⟨⟨w1, w2, w4, w5⟩, d1, d2, d3⟩ := hk
  simp only [n_room, Bool.and_eq_true] at hroom
  have cb : CallB rm s args μ.y.cls idx μ'.y μ'.cc μ'.nL μ'.ret μ'.ws μ'.rm μ'.mc μ'.ms nn := callB_of nn C.2.2.2.2.2.2.1 (m_goodIn (by
    intro w hw
    rcases List.mem_cons.mp hw with rfl | h
    · exact w5
    · exact h)) rfl rfl rfl (C.2.2.2.2.2.2.1 _ w4) (C.2.2.2.2.2.2.1 _ w1) ⟨d1, d2, d3⟩ ⟨Nat.le_of_ble_eq_true hroom.1, Nat.le_of_ble_eq_true hroom.2⟩
  have hP0 : n_P G b bs' (fun j => N (ix j)) H := fun j q hq => hP (ix j) q (hb j q hq)
  have hsub : ∀ q, n_own b bs' H.size q → A q := by
    rintro q (⟨j, p', k, h1, h2, rfl⟩ | hq)
    · exact hD.1 (ix j) p' (hb j p' h1) k h2
    · exact hA q (Nat.le_trans hS.1 hq)
  have run := va_runS (As := as.map (m_tv b)) (rest := st.map (m_tv b)) (c := c) (cc := μ.cc) (nL := μ.nL) (g := F0 m pc ls (st0.map (m_tv b))) (locs := locs) (cells := cells) (slots := slots) (below := below) (e := e) (p := p) (l := G.1) (meth := meth) ⟨C.1, C.2.1, C.2.2.1, C.2.2.2.2.2.1, C.2.2.2.2.2.2.1⟩ (hs b H.size) ⟨cb, C.2.2.2.2.2.2.1 _ w2⟩ ⟨n_blind, fun U hU hW => ⟨rfl, by rw [hU], by rw [hU]; exact hP0, (C.2.2.2.2.2.2.2.2).warm hW, by
    rcases hsc with rfl | rfl
    · trivial
    · cases sc' with
      | none => trivial
      | some x =>
        obtain ⟨x1, x2, x3⟩ := hD.2
        rw [show n_XU (some x) b U = (va_X (b + x.1) x.2.1 x.2.2 U U.heap ∧ b + x.1 < U.heap.size) from rfl, hU]
        exact ⟨(x1.moved hW.alike).kept (hS.2.1 _ x2 x3), Nat.lt_of_lt_of_le x2 hS.1⟩⟩⟩ rfl (by rw [List.length_map]; exact hn) hl.1 (by rw [hst]; simp) (lv_room (by rw [m_wid_sum]; exact Nat.le_of_ble_eq_true hw)) hd (by rw [h0.1, h0.2]; exact hc)
  intro T hT X
  obtain ⟨v, st₀, t, T', Lc, h0', X', hLc, e1, e2, ⟨v', Nc, hv, hq, hP', hz, hk'⟩, stp⟩ := run T hT X
  cases hv
  rw [h0'] at hz hk'
  rw [h0.1, h0.2] at X'
  obtain ⟨N', n1, n2⟩ : ∃ N' : NM, (∀ j, j < bs'.length → N' (ix j) = Nc j) ∧ ∀ i, (∀ j, j < bs'.length → ix j ≠ i) → N' i = N i := by
    refine ⟨fun i => if h : ∃ j, j < bs'.length ∧ ix j = i then Nc (Classical.choose h) else N i, fun j hj => ?_, fun i hi => ?_⟩
    · have h : ∃ j', j' < bs'.length ∧ ix j' = ix j := ⟨j, hj, rfl⟩
      show (if h : ∃ j', j' < bs'.length ∧ ix j' = ix j then Nc (Classical.choose h) else N (ix j)) = Nc j
      rw [dif_pos h]
      have hsp := Classical.choose_spec h
      rw [hinj _ _ hsp.1 hj hsp.2]
    · show (if h : ∃ j', j' < bs'.length ∧ ix j' = i then Nc (Classical.choose h) else N i) = N i
      rw [dif_neg]
      rintro ⟨j, h1, h2⟩
      exact hi j h1 h2
  have hN : n_P G b bs N' T'.heap := by
    intro i q hi
    rw [e1]
    by_cases hx : ∃ j, j < bs'.length ∧ ix j = i
    · obtain ⟨j, hj, rfl⟩ := hx
      rw [n1 j hj]
      have e3 : bs'[j]? = some (bs'[j]) := List.getElem?_eq_getElem hj
      have e4 := hb j _ e3
      rw [hi] at e4
      cases e4
      exact hP' j _ e3
    · rw [n2 i (fun j h1 h2 => hx ⟨j, h1, h2⟩)]
      intro k x hxk
      have l1 := (hP i q hi k x hxk).lt
      obtain ⟨l2, l3⟩ := n_wsg hxk
      refine (hP i q hi k x hxk).kept (hk' x.1 l1 ?_)
      rintro (⟨j, p', k', h1, h2, h3⟩ | h3)
      · have hj := (List.getElem?_eq_some_iff.mp h1).1
        exact hap i (ix j) q p' hi (hb j p' h1) (fun z => hx ⟨j, hj, z.symm⟩) k k' l3 h2 (by omega)
      · omega
  have K9 := kk v' Nc hq N' n1 n2 p e s m args below meth c T'.heap (locs ++ Lc) b A ls C hN hD ⟨Nat.le_trans hS.1 (by rw [e1]; exact hz), fun q h1 h2 => by rw [e1, hk' q (Nat.lt_of_lt_of_le h1 hS.1) (fun z => h2 (hsub q z))]; exact hS.2.1 q h1 h2, fun q hq => by
      rcases List.mem_append.mp hq with h | h
      · exact hS.2.2 q h
      · exact hsub _ (hLc q h)⟩ hA ht hl
  obtain ⟨t2, a1, b1⟩ := K9 T' rfl X'
  refine ⟨t2, stp t2 ?_, b1⟩
  rw [← m_tv_app] at a1
  exact a1
end

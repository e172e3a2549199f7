section
variable {G : GT} {μ : MT} {tp : Bool} {Qf : Option MV → MS → MM → Prop} {cells slots pc : Nat} {lv : List (Nat × MV)} {st : List MV} {sh : MS} {M : MM}
theorem r_lift {pc' : Nat} {st' : List MV} (h : ∀ {p : Program} {l : Launch} {e : Env} {R : Room} {s : State} {m : MethodId} {args : Array Value} {below : List Frame} {meth : Method} {c : Code} {H : Heap} {locs : List Loc} {b : Nat} {ls : Array Slot} {Q : State → Prop}, p.tables.exec = Jvm.exec → c.code = μ.cc → W p l e R s m args below meth c H locs cells slots Q (F0 m pc' ls (st'.map (m_tv b))) → W p l e R s m args below meth c H locs cells slots Q (F0 m pc ls (st.map (m_tv b))))
    (k : m_Run G μ tp Qf cells slots pc' lv st' sh M) : m_Run G μ tp Qf cells slots pc lv st sh M :=
  fun p e s m args below meth c H locs b A ls C hP hD hS hA ht hl => h C.1 C.2.1 (k p e s m args below meth c H locs b A ls C hP hD hS hA ht hl)
theorem r_liftC {pc' : Nat} {st' : List MV} (h : ∀ {p : Program} {l : Launch} {e : Env} {R : Room} {s : State} {m : MethodId} {args : Array Value} {below : List Frame} {meth : Method} {c : Code} {H : Heap} {locs : List Loc} {b : Nat} {ls : Array Slot} {Q : State → Prop}, m_Ctx G μ p s m args meth c → va_P G.2.1 vwCl (m_ws G b sh M) H → lv_has ls μ.nL (lv.map (fun q => (q.1, m_tv b q.2))) → W p l e R s m args below meth c H locs cells slots Q (F0 m pc' ls (st'.map (m_tv b))) → W p l e R s m args below meth c H locs cells slots Q (F0 m pc ls (st.map (m_tv b))))
    (k : m_Run G μ tp Qf cells slots pc' lv st' sh M) : m_Run G μ tp Qf cells slots pc lv st sh M :=
  fun p e s m args below meth c H locs b A ls C hP hD hS hA ht hl => h C hP hl (k p e s m args below meth c H locs b A ls C hP hD hS hA ht hl)
/-! numbers -/
theorem z_t {x : Int} (h : -2147483648 ≤ x ∧ x ≤ 2147483647) : (Int32.ofInt x).toInt = x := Int32.toInt_ofInt_of_le (by omega) (by omega)
theorem z_tl {x : Int} (h : -9223372036854775808 ≤ x ∧ x ≤ 9223372036854775807) : (Int64.ofInt x).toInt = x := Int64.toInt_ofInt_of_le (by omega) (by omega)
theorem z_eq {x y : Int} (hx : -2147483648 ≤ x ∧ x ≤ 2147483647) (hy : -2147483648 ≤ y ∧ y ≤ 2147483647) : Int32.ofInt x = Int32.ofInt y ↔ x = y :=
  ⟨fun h => by rw [← z_t hx, ← z_t hy, h], fun h => by rw [h]⟩
theorem z_lt {x y : Int} (hx : -2147483648 ≤ x ∧ x ≤ 2147483647) (hy : -2147483648 ≤ y ∧ y ≤ 2147483647) : Int32.ofInt x < Int32.ofInt y ↔ x < y := by rw [Int32.lt_iff_toInt_lt, z_t hx, z_t hy]
theorem z_le {x y : Int} (hx : -2147483648 ≤ x ∧ x ≤ 2147483647) (hy : -2147483648 ≤ y ∧ y ≤ 2147483647) : Int32.ofInt x ≤ Int32.ofInt y ↔ x ≤ y := by rw [Int32.le_iff_toInt_le, z_t hx, z_t hy]
theorem z_eqL {x y : Int} (hx : -9223372036854775808 ≤ x ∧ x ≤ 9223372036854775807) (hy : -9223372036854775808 ≤ y ∧ y ≤ 9223372036854775807) : Int64.ofInt x = Int64.ofInt y ↔ x = y :=
  ⟨fun h => by rw [← z_tl hx, ← z_tl hy, h], fun h => by rw [h]⟩
theorem z_ltL {x y : Int} (hx : -9223372036854775808 ≤ x ∧ x ≤ 9223372036854775807) (hy : -9223372036854775808 ≤ y ∧ y ≤ 9223372036854775807) : Int64.ofInt x < Int64.ofInt y ↔ x < y := by rw [Int64.lt_iff_toInt_lt, z_tl hx, z_tl hy]
theorem z_in {i : Int} {n : Nat} (h : 0 ≤ i ∧ i < n ∧ i ≤ 2147483647) : vp_in (Int32.ofInt i) n ∧ ((Int32.ofInt i).toNatClampNeg : Int) = i := by
  have ht := z_t (x := i) (by omega)
  refine ⟨vp_in_iff.mpr (by rw [ht]; omega), ?_⟩
  rw [← Int32.toNat_toInt, ht]
  omega
def z_and (x y : Int) : Int := (Int32.ofInt x &&& Int32.ofInt y).toInt
def z_or (x y : Int) : Int := (Int32.ofInt x ||| Int32.ofInt y).toInt
def z_xor (x y : Int) : Int := (Int32.ofInt x ^^^ Int32.ofInt y).toInt
def z_shl (x y : Int) : Int := (Int32.ofInt x <<< (Int32.ofInt y &&& 31)).toInt
def z_shr (x y : Int) : Int := (Int32.ofInt x >>> (Int32.ofInt y &&& 31)).toInt
def z_ushr (x y : Int) : Int := (((Int32.ofInt x).toUInt32 >>> ((Int32.ofInt y).toUInt32 &&& Int32.toUInt32 31)).toInt32).toInt
def z_landl (x y : Int) : Int := (Int64.ofInt x &&& Int64.ofInt y).toInt
def z_lorl (x y : Int) : Int := (Int64.ofInt x ||| Int64.ofInt y).toInt
def z_lxorl (x y : Int) : Int := (Int64.ofInt x ^^^ Int64.ofInt y).toInt
def z_shll (x y : Int) : Int := (Int64.ofInt x <<< ((Int32.ofInt y).toInt64 &&& 63)).toInt
def z_shrl (x y : Int) : Int := (Int64.ofInt x >>> ((Int32.ofInt y).toInt64 &&& 63)).toInt
def z_b (x : Int) : Int := ((Int32.ofInt x).toInt8.toInt32).toInt
theorem z_oi (x : Int32) : Int32.ofInt x.toInt = x := Int32.ofInt_toInt x
theorem z_ol (x : Int64) : Int64.ofInt x.toInt = x := Int64.ofInt_toInt x
/-! constants, locals, stack -/
theorem r_iconst {n : Int} (hd : decode μ.cc pc = .ok (.iconst n, 1)) (k : m_Run G μ tp Qf cells slots (pc + 1) lv (mi n :: st) sh M) : m_Run G μ tp Qf cells slots pc lv st sh M := r_lift (fun hx hb k => lv_iconst hx hb hd rfl k) k
theorem r_bipush {n : Int} (hd : decode μ.cc pc = .ok (.bipush n, 2)) (hv : (Int8.ofInt n).toInt32 = Int32.ofInt n) (k : m_Run G μ tp Qf cells slots (pc + 2) lv (mi n :: st) sh M) : m_Run G μ tp Qf cells slots pc lv st sh M := r_lift (fun hx hb k => lv_bipush hx hb hd hv k) k
theorem r_sipush {n : Int} (hd : decode μ.cc pc = .ok (.sipush n, 3)) (hv : (Int16.ofInt n).toInt32 = Int32.ofInt n) (k : m_Run G μ tp Qf cells slots (pc + 3) lv (mi n :: st) sh M) : m_Run G μ tp Qf cells slots pc lv st sh M := r_lift (fun hx hb k => lv_sipush hx hb hd hv k) k
theorem r_lconst {n : Fin 2} (z : Int) (hd : decode μ.cc pc = .ok (.lconst n, 1)) (hv : Int64.ofNat (n : Nat) = Int64.ofInt z) (k : m_Run G μ tp Qf cells slots (pc + 1) lv (ml z :: st) sh M) : m_Run G μ tp Qf cells slots pc lv st sh M := r_lift (fun hx hb k => lv_lconst hx hb hd hv k) k
theorem r_ldc {idx : Nat} (z : Int) (hd : decode μ.cc pc = .ok (.ldc idx, 2)) (hw : Cond.constant μ.y.cls idx (Int32.ofInt z) ∈ m_tbl) (k : m_Run G μ tp Qf cells slots (pc + 2) lv (mi z :: st) sh M) : m_Run G μ tp Qf cells slots pc lv st sh M :=
  r_liftC (fun C _ _ k => lv_ldc C.1 C.2.1 C.2.2.2.2.2.1 (C.2.2.2.2.2.2.1 _ hw) hd k) k
theorem r_ldcw {idx : Nat} (z : Int) (hd : decode μ.cc pc = .ok (.ldc_w idx, 3)) (hw : Cond.constant μ.y.cls idx (Int32.ofInt z) ∈ m_tbl) (k : m_Run G μ tp Qf cells slots (pc + 3) lv (mi z :: st) sh M) : m_Run G μ tp Qf cells slots pc lv st sh M :=
  r_liftC (fun C _ _ k => lv_ldcw C.1 C.2.1 C.2.2.2.2.2.1 (C.2.2.2.2.2.2.1 _ hw) hd k) k
theorem r_ldc2 {idx : Nat} (z : Int) (hd : decode μ.cc pc = .ok (.ldc2_w idx, 3)) (hw : Cond.constantLong μ.y.cls idx (Int64.ofInt z) ∈ m_tbl) (k : m_Run G μ tp Qf cells slots (pc + 3) lv (ml z :: st) sh M) : m_Run G μ tp Qf cells slots pc lv st sh M :=
  r_liftC (fun C _ _ k => lv_ldc2 C.1 C.2.1 C.2.2.2.2.2.1 (C.2.2.2.2.2.2.1 _ hw) hd k) k
theorem m_lv_at {b : Nat} {ls : Array Slot} {nL : Nat} (h : lv_has ls nL (lv.map (fun q => (q.1, m_tv b q.2)))) (k : Nat) {i : Nat} {v : MV} (hk : lv[k]? = some (i, v)) : ls[i]? = some (.val (m_tv b v)) :=
  lv_at h k (by rw [List.getElem?_map, hk]; rfl)
theorem r_iload_n {j : Fin 4} {i : Nat} {x : Int} (hd : decode μ.cc pc = .ok (.iload_n j, 1)) (q : Nat) (hq : lv[q]? = some (i, mi x)) (hi : (j : Nat) = i) (k : m_Run G μ tp Qf cells slots (pc + 1) lv (mi x :: st) sh M) : m_Run G μ tp Qf cells slots pc lv st sh M :=
  r_liftC (fun C _ hl k => lv_iload_n C.1 C.2.1 hd hi (m_lv_at hl q hq) k) k
theorem r_iload {i : Nat} {x : Int} (hd : decode μ.cc pc = .ok (.iload i, 2)) (q : Nat) (hq : lv[q]? = some (i, mi x)) (k : m_Run G μ tp Qf cells slots (pc + 2) lv (mi x :: st) sh M) : m_Run G μ tp Qf cells slots pc lv st sh M :=
  r_liftC (fun C _ hl k => lv_iload C.1 C.2.1 hd (m_lv_at hl q hq) k) k
theorem r_lload_n {j : Fin 4} {i : Nat} {x : Int} (hd : decode μ.cc pc = .ok (.lload_n j, 1)) (q : Nat) (hq : lv[q]? = some (i, ml x)) (hi : (j : Nat) = i) (k : m_Run G μ tp Qf cells slots (pc + 1) lv (ml x :: st) sh M) : m_Run G μ tp Qf cells slots pc lv st sh M :=
  r_liftC (fun C _ hl k => lv_lload_n C.1 C.2.1 hd hi (m_lv_at hl q hq) k) k
theorem r_lload {i : Nat} {x : Int} (hd : decode μ.cc pc = .ok (.lload i, 2)) (q : Nat) (hq : lv[q]? = some (i, ml x)) (k : m_Run G μ tp Qf cells slots (pc + 2) lv (ml x :: st) sh M) : m_Run G μ tp Qf cells slots pc lv st sh M :=
  r_liftC (fun C _ hl k => lv_lload C.1 C.2.1 hd (m_lv_at hl q hq) k) k
theorem r_aload_n {j : Fin 4} {i : Nat} {x : Nat} (hd : decode μ.cc pc = .ok (.aload_n j, 1)) (q : Nat) (hq : lv[q]? = some (i, mr x)) (hi : (j : Nat) = i) (k : m_Run G μ tp Qf cells slots (pc + 1) lv (mr x :: st) sh M) : m_Run G μ tp Qf cells slots pc lv st sh M :=
  r_liftC (fun C _ hl k => lv_aload_n C.1 C.2.1 hd hi (m_lv_at hl q hq) k) k
theorem r_aload {i : Nat} {x : Nat} (hd : decode μ.cc pc = .ok (.aload i, 2)) (q : Nat) (hq : lv[q]? = some (i, mr x)) (k : m_Run G μ tp Qf cells slots (pc + 2) lv (mr x :: st) sh M) : m_Run G μ tp Qf cells slots pc lv st sh M :=
  r_liftC (fun C _ hl k => lv_aload C.1 C.2.1 hd (m_lv_at hl q hq) k) k
/-- the locals behind a store, by their numbers -/
def m_keep (i : Nat) (v : MV) (q : Nat × MV) : Bool := !(Nat.beq q.1 i) && (!(Nat.beq (q.1 + 1) i && Nat.beq (m_cat q.2) 2) && !(Nat.beq q.1 (i + 1) && Nat.beq (m_cat v) 2))
def m_ins (x : Nat × MV) : List (Nat × MV) → List (Nat × MV)
  | [] => [x]
  | y :: t => match Nat.blt x.1 y.1 with
    | true => x :: y :: t
    | false => y :: m_ins x t
def m_st (i : Nat) (v : MV) (l : List (Nat × MV)) : List (Nat × MV) := m_ins (i, v) (l.filter (m_keep i v))
theorem m_ins_mem {x q : Nat × MV} : ∀ {l : List (Nat × MV)}, q ∈ m_ins x l → q = x ∨ q ∈ l
  | [], h => by simp [m_ins] at h; exact Or.inl h
  | y :: t, h => by
    unfold m_ins at h
    split at h
    · rcases List.mem_cons.mp h with h | h
      · exact Or.inl h
      · exact Or.inr h
    · rcases List.mem_cons.mp h with h | h
      · exact Or.inr (by rw [h]; exact List.mem_cons_self)
      · rcases m_ins_mem h with h | h
        · exact Or.inl h
        · exact Or.inr (List.mem_cons_of_mem _ h)
theorem m_st_has {b i nL : Nat} {v : MV} {l : List (Nat × MV)} {ls : Array Slot} {big : List (Nat × Value)} (h : lv_has ls nL big)
    (hb : ∀ j w, (j, w) ∈ l → m_keep i v (j, w) = true → (j, m_tv b w) ∈ big) (hi : (i, m_tv b v) ∈ big) : lv_has ls nL ((m_st i v l).map (fun q => (q.1, m_tv b q.2))) := by
  refine ⟨h.1, h.2.1, fun q hq => ?_⟩
  obtain ⟨x, hx, rfl⟩ := List.mem_map.mp hq
  rcases m_ins_mem hx with hx | hx
  · subst hx
    exact h.2.2 _ hi
  · obtain ⟨h1, h2⟩ := List.mem_filter.mp hx
    exact h.2.2 _ (hb x.1 x.2 h1 h2)
theorem m_beq (a b : Nat) : Nat.beq a b = (a == b) := by
  rw [Bool.eq_iff_iff]
  simp [Nat.beq_eq]
theorem m_st1 {b i nL : Nat} {v : MV} {l : List (Nat × MV)} {ls : Array Slot} (h : lv_has ls nL ((i, m_tv b v) :: (l.map (fun q => (q.1, m_tv b q.2))).filter (fun q => !(q.1 == i) && !(q.1 + 1 == i && q.2.category == 2)))) :
    lv_has ls nL ((m_st i v l).map (fun q => (q.1, m_tv b q.2))) := by
  refine m_st_has h (fun j w hw hk => List.mem_cons_of_mem _ (List.mem_filter.mpr ⟨List.mem_map.mpr ⟨(j, w), hw, rfl⟩, ?_⟩)) List.mem_cons_self
  simp only [m_keep, m_beq, Bool.and_eq_true, Bool.not_eq_true'] at hk ⊢
  obtain ⟨h1, h2, -⟩ := hk
  rw [m_cat_tv]
  exact ⟨h1, h2⟩
theorem m_st2 {b i nL : Nat} {v : MV} {l : List (Nat × MV)} {ls : Array Slot} (hv : m_cat v = 2) (h : lv_has ls nL ((i, m_tv b v) :: (l.map (fun q => (q.1, m_tv b q.2))).filter (fun q => !(q.1 == i) && (!(q.1 == i + 1) && !(q.1 + 1 == i && q.2.category == 2))))) :
    lv_has ls nL ((m_st i v l).map (fun q => (q.1, m_tv b q.2))) := by
  refine m_st_has h (fun j w hw hk => List.mem_cons_of_mem _ (List.mem_filter.mpr ⟨List.mem_map.mpr ⟨(j, w), hw, rfl⟩, ?_⟩)) List.mem_cons_self
  simp only [m_keep, m_beq, hv, Bool.and_eq_true, Bool.not_eq_true'] at hk ⊢
  obtain ⟨h1, h2, h3⟩ := hk
  rw [m_cat_tv]
  refine ⟨h1, ?_, h2⟩
  simpa using h3
theorem r_istore_n {j : Fin 4} {i : Nat} {x : Int} {lv' : List (Nat × MV)} (hd : decode μ.cc pc = .ok (.istore_n j, 1)) (hi : (j : Nat) = i) (hn : Nat.blt i μ.nL = true) (hl' : m_st i (mi x) lv = lv') (k : m_Run G μ tp Qf cells slots (pc + 1) lv' st sh M) : m_Run G μ tp Qf cells slots pc lv (mi x :: st) sh M :=
  fun p e s m args below meth c H locs b A ls C hP hD hS hA ht hl => lv_istore_n C.1 C.2.1 hd hi hl (by simpa [Nat.blt_eq] using hn) rfl (fun ls' h => k p e s m args below meth c H locs b A ls' C hP hD hS hA ht (hl' ▸ m_st1 (v := mi x) h))
theorem r_istore {i : Nat} {x : Int} {lv' : List (Nat × MV)} (hd : decode μ.cc pc = .ok (.istore i, 2)) (hn : Nat.blt i μ.nL = true) (hl' : m_st i (mi x) lv = lv') (k : m_Run G μ tp Qf cells slots (pc + 2) lv' st sh M) : m_Run G μ tp Qf cells slots pc lv (mi x :: st) sh M :=
  fun p e s m args below meth c H locs b A ls C hP hD hS hA ht hl => lv_istore C.1 C.2.1 hd hl (by simpa [Nat.blt_eq] using hn) rfl (fun ls' h => k p e s m args below meth c H locs b A ls' C hP hD hS hA ht (hl' ▸ m_st1 (v := mi x) h))
theorem r_astore_n {j : Fin 4} {i : Nat} {x : Nat} {lv' : List (Nat × MV)} (hd : decode μ.cc pc = .ok (.astore_n j, 1)) (hi : (j : Nat) = i) (hn : Nat.blt i μ.nL = true) (hl' : m_st i (mr x) lv = lv') (k : m_Run G μ tp Qf cells slots (pc + 1) lv' st sh M) : m_Run G μ tp Qf cells slots pc lv (mr x :: st) sh M :=
  fun p e s m args below meth c H locs b A ls C hP hD hS hA ht hl => lv_astore_n C.1 C.2.1 hd hi hl (by simpa [Nat.blt_eq] using hn) rfl (fun ls' h => k p e s m args below meth c H locs b A ls' C hP hD hS hA ht (hl' ▸ m_st1 (v := mr x) h))
theorem r_astore {i : Nat} {x : Nat} {lv' : List (Nat × MV)} (hd : decode μ.cc pc = .ok (.astore i, 2)) (hn : Nat.blt i μ.nL = true) (hl' : m_st i (mr x) lv = lv') (k : m_Run G μ tp Qf cells slots (pc + 2) lv' st sh M) : m_Run G μ tp Qf cells slots pc lv (mr x :: st) sh M :=
  fun p e s m args below meth c H locs b A ls C hP hD hS hA ht hl => lv_astore C.1 C.2.1 hd hl (by simpa [Nat.blt_eq] using hn) rfl (fun ls' h => k p e s m args below meth c H locs b A ls' C hP hD hS hA ht (hl' ▸ m_st1 (v := mr x) h))
theorem r_lstore_n {j : Fin 4} {i : Nat} {x : Int} {lv' : List (Nat × MV)} (hd : decode μ.cc pc = .ok (.lstore_n j, 1)) (hi : (j : Nat) = i) (hn : Nat.blt (i + 1) μ.nL = true) (hl' : m_st i (ml x) lv = lv') (k : m_Run G μ tp Qf cells slots (pc + 1) lv' st sh M) : m_Run G μ tp Qf cells slots pc lv (ml x :: st) sh M :=
  fun p e s m args below meth c H locs b A ls C hP hD hS hA ht hl => lv_lstore_n C.1 C.2.1 hd hi hl (by simpa [Nat.blt_eq] using hn) rfl (fun ls' h => k p e s m args below meth c H locs b A ls' C hP hD hS hA ht (hl' ▸ m_st2 (v := ml x) rfl h))
theorem r_lstore {i : Nat} {x : Int} {lv' : List (Nat × MV)} (hd : decode μ.cc pc = .ok (.lstore i, 2)) (hn : Nat.blt (i + 1) μ.nL = true) (hl' : m_st i (ml x) lv = lv') (k : m_Run G μ tp Qf cells slots (pc + 2) lv' st sh M) : m_Run G μ tp Qf cells slots pc lv (ml x :: st) sh M :=
  fun p e s m args below meth c H locs b A ls C hP hD hS hA ht hl => lv_lstore C.1 C.2.1 hd hl (by simpa [Nat.blt_eq] using hn) rfl (fun ls' h => k p e s m args below meth c H locs b A ls' C hP hD hS hA ht (hl' ▸ m_st2 (v := ml x) rfl h))
theorem r_iinc {i : Nat} {n x : Int} {lv' : List (Nat × MV)} (hd : decode μ.cc pc = .ok (.iinc i n, 3)) (q : Nat) (hq : lv[q]? = some (i, mi x)) (hn : Nat.blt i μ.nL = true) (hl' : m_st i (mi (x + n)) lv = lv') (k : m_Run G μ tp Qf cells slots (pc + 3) lv' st sh M) : m_Run G μ tp Qf cells slots pc lv st sh M :=
  fun p e s m args below meth c H locs b A ls C hP hD hS hA ht hl => lv_iinc C.1 C.2.1 hd hl (k := q) (by rw [List.getElem?_map, hq]; rfl) (v := Int32.ofInt (x + n)) (Int32.ofInt_add x n).symm (by simpa [Nat.blt_eq] using hn) rfl (fun ls' h => k p e s m args below meth c H locs b A ls' C hP hD hS hA ht (hl' ▸ m_st1 (v := mi (x + n)) h))
theorem r_dup {v : MV} (hd : decode μ.cc pc = .ok (.dup, 1)) (hc : m_cat v = 1) (k : m_Run G μ tp Qf cells slots (pc + 1) lv (v :: v :: st) sh M) : m_Run G μ tp Qf cells slots pc lv (v :: st) sh M := r_lift (fun hx hb k => lv_dup hx hb hd (by rw [m_cat_tv]; exact hc) k) k
theorem r_dup2 {v w : MV} (hd : decode μ.cc pc = .ok (.dup2, 1)) (hc : m_cat v = 1) (hc2 : m_cat w = 1) (k : m_Run G μ tp Qf cells slots (pc + 1) lv (v :: w :: v :: w :: st) sh M) : m_Run G μ tp Qf cells slots pc lv (v :: w :: st) sh M := r_lift (fun hx hb k => lv_dup2_11 hx hb hd (by rw [m_cat_tv]; exact hc) (by rw [m_cat_tv]; exact hc2) k) k
theorem r_pop {v : MV} (hd : decode μ.cc pc = .ok (.pop, 1)) (hc : m_cat v = 1) (k : m_Run G μ tp Qf cells slots (pc + 1) lv st sh M) : m_Run G μ tp Qf cells slots pc lv (v :: st) sh M := r_lift (fun hx hb k => lv_pop hx hb hd (by rw [m_cat_tv]; exact hc) k) k
/-! arithmetic -/
theorem r_iadd {x y : Int} (hd : decode μ.cc pc = .ok (.iadd, 1)) (k : m_Run G μ tp Qf cells slots (pc + 1) lv (mi (x + y) :: st) sh M) : m_Run G μ tp Qf cells slots pc lv (mi y :: mi x :: st) sh M :=
  r_lift (fun hx hb k => lv_iadd hx hb hd (by rw [← Int32.ofInt_add]; exact k)) k
theorem r_isub {x y : Int} (hd : decode μ.cc pc = .ok (.isub, 1)) (k : m_Run G μ tp Qf cells slots (pc + 1) lv (mi (x - y) :: st) sh M) : m_Run G μ tp Qf cells slots pc lv (mi y :: mi x :: st) sh M :=
  r_lift (fun hx hb k => lv_isub hx hb hd (by rw [← Int32.ofInt_sub]; exact k)) k
theorem r_imul {x y : Int} (hd : decode μ.cc pc = .ok (.imul, 1)) (k : m_Run G μ tp Qf cells slots (pc + 1) lv (mi (x * y) :: st) sh M) : m_Run G μ tp Qf cells slots pc lv (mi y :: mi x :: st) sh M :=
  r_lift (fun hx hb k => lv_imul hx hb hd (by rw [← Int32.ofInt_mul]; exact k)) k
theorem r_ladd {x y : Int} (hd : decode μ.cc pc = .ok (.ladd, 1)) (k : m_Run G μ tp Qf cells slots (pc + 1) lv (ml (x + y) :: st) sh M) : m_Run G μ tp Qf cells slots pc lv (ml y :: ml x :: st) sh M :=
  r_lift (fun hx hb k => lv_ladd hx hb hd (by rw [← Int64.ofInt_add]; exact k)) k
theorem r_lsub {x y : Int} (hd : decode μ.cc pc = .ok (.lsub, 1)) (k : m_Run G μ tp Qf cells slots (pc + 1) lv (ml (x - y) :: st) sh M) : m_Run G μ tp Qf cells slots pc lv (ml y :: ml x :: st) sh M :=
  r_lift (fun hx hb k => lv_lsub hx hb hd (by rw [← Int64.ofInt_sub]; exact k)) k
theorem r_lmul {x y : Int} (hd : decode μ.cc pc = .ok (.lmul, 1)) (k : m_Run G μ tp Qf cells slots (pc + 1) lv (ml (x * y) :: st) sh M) : m_Run G μ tp Qf cells slots pc lv (ml y :: ml x :: st) sh M :=
  r_lift (fun hx hb k => lv_lmul hx hb hd (by rw [← Int64.ofInt_mul]; exact k)) k
theorem r_iand {x y : Int} (hd : decode μ.cc pc = .ok (.iand, 1)) (k : m_Run G μ tp Qf cells slots (pc + 1) lv (mi (z_and x y) :: st) sh M) : m_Run G μ tp Qf cells slots pc lv (mi y :: mi x :: st) sh M :=
  r_lift (fun hx hb k => lv_iand hx hb hd (by rw [← z_oi (Int32.ofInt x &&& Int32.ofInt y)]; exact k)) k
theorem r_ior {x y : Int} (hd : decode μ.cc pc = .ok (.ior, 1)) (k : m_Run G μ tp Qf cells slots (pc + 1) lv (mi (z_or x y) :: st) sh M) : m_Run G μ tp Qf cells slots pc lv (mi y :: mi x :: st) sh M :=
  r_lift (fun hx hb k => lv_ior hx hb hd (by rw [← z_oi (Int32.ofInt x ||| Int32.ofInt y)]; exact k)) k
theorem r_ixor {x y : Int} (hd : decode μ.cc pc = .ok (.ixor, 1)) (k : m_Run G μ tp Qf cells slots (pc + 1) lv (mi (z_xor x y) :: st) sh M) : m_Run G μ tp Qf cells slots pc lv (mi y :: mi x :: st) sh M :=
  r_lift (fun hx hb k => lv_ixor hx hb hd (by rw [← z_oi (Int32.ofInt x ^^^ Int32.ofInt y)]; exact k)) k
theorem r_ishl {x y : Int} (hd : decode μ.cc pc = .ok (.ishl, 1)) (k : m_Run G μ tp Qf cells slots (pc + 1) lv (mi (z_shl x y) :: st) sh M) : m_Run G μ tp Qf cells slots pc lv (mi y :: mi x :: st) sh M :=
  r_lift (fun hx hb k => lv_ishl hx hb hd (by rw [← z_oi (Int32.ofInt x <<< (Int32.ofInt y &&& 31))]; exact k)) k
theorem r_ishr {x y : Int} (hd : decode μ.cc pc = .ok (.ishr, 1)) (k : m_Run G μ tp Qf cells slots (pc + 1) lv (mi (z_shr x y) :: st) sh M) : m_Run G μ tp Qf cells slots pc lv (mi y :: mi x :: st) sh M :=
  r_lift (fun hx hb k => lv_ishr hx hb hd (by rw [← z_oi (Int32.ofInt x >>> (Int32.ofInt y &&& 31))]; exact k)) k
theorem r_iushr {x y : Int} (hd : decode μ.cc pc = .ok (.iushr, 1)) (k : m_Run G μ tp Qf cells slots (pc + 1) lv (mi (z_ushr x y) :: st) sh M) : m_Run G μ tp Qf cells slots pc lv (mi y :: mi x :: st) sh M :=
  r_lift (fun hx hb k => lv_iushr hx hb hd rfl (by rw [← z_oi ((Int32.ofInt x).toUInt32 >>> ((Int32.ofInt y).toUInt32 &&& Int32.toUInt32 31)).toInt32]; exact k)) k
theorem r_land {x y : Int} (hd : decode μ.cc pc = .ok (.land, 1)) (k : m_Run G μ tp Qf cells slots (pc + 1) lv (ml (z_landl x y) :: st) sh M) : m_Run G μ tp Qf cells slots pc lv (ml y :: ml x :: st) sh M :=
  r_lift (fun hx hb k => lv_land hx hb hd (by rw [← z_ol (Int64.ofInt x &&& Int64.ofInt y)]; exact k)) k
theorem r_lor {x y : Int} (hd : decode μ.cc pc = .ok (.lor, 1)) (k : m_Run G μ tp Qf cells slots (pc + 1) lv (ml (z_lorl x y) :: st) sh M) : m_Run G μ tp Qf cells slots pc lv (ml y :: ml x :: st) sh M :=
  r_lift (fun hx hb k => lv_lor hx hb hd (by rw [← z_ol (Int64.ofInt x ||| Int64.ofInt y)]; exact k)) k
theorem r_lxor {x y : Int} (hd : decode μ.cc pc = .ok (.lxor, 1)) (k : m_Run G μ tp Qf cells slots (pc + 1) lv (ml (z_lxorl x y) :: st) sh M) : m_Run G μ tp Qf cells slots pc lv (ml y :: ml x :: st) sh M :=
  r_lift (fun hx hb k => lv_lxor hx hb hd (by rw [← z_ol (Int64.ofInt x ^^^ Int64.ofInt y)]; exact k)) k
theorem r_lshl {x y : Int} (hd : decode μ.cc pc = .ok (.lshl, 1)) (k : m_Run G μ tp Qf cells slots (pc + 1) lv (ml (z_shll x y) :: st) sh M) : m_Run G μ tp Qf cells slots pc lv (mi y :: ml x :: st) sh M :=
  r_lift (fun hx hb k => lv_lshl hx hb hd rfl (by rw [← z_ol (Int64.ofInt x <<< ((Int32.ofInt y).toInt64 &&& 63))]; exact k)) k
theorem r_lshr {x y : Int} (hd : decode μ.cc pc = .ok (.lshr, 1)) (k : m_Run G μ tp Qf cells slots (pc + 1) lv (ml (z_shrl x y) :: st) sh M) : m_Run G μ tp Qf cells slots pc lv (mi y :: ml x :: st) sh M :=
  r_lift (fun hx hb k => lv_lshr hx hb hd rfl (by rw [← z_ol (Int64.ofInt x >>> ((Int32.ofInt y).toInt64 &&& 63))]; exact k)) k
theorem r_i2l {x : Int} (hd : decode μ.cc pc = .ok (.i2l, 1)) (h : -2147483648 ≤ x ∧ x ≤ 2147483647) (k : m_Run G μ tp Qf cells slots (pc + 1) lv (ml x :: st) sh M) : m_Run G μ tp Qf cells slots pc lv (mi x :: st) sh M :=
  r_lift (fun hx hb k => lv_i2l hx hb hd (by rw [← Int64.ofInt_int32ToInt, z_t h]) k) k
theorem r_l2i {x : Int} (hd : decode μ.cc pc = .ok (.l2i, 1)) (k : m_Run G μ tp Qf cells slots (pc + 1) lv (mi x :: st) sh M) : m_Run G μ tp Qf cells slots pc lv (ml x :: st) sh M :=
  r_lift (fun hx hb k => lv_l2i hx hb hd (by simp) k) k
theorem r_i2b {x : Int} (hd : decode μ.cc pc = .ok (.i2b, 1)) (k : m_Run G μ tp Qf cells slots (pc + 1) lv (mi (z_b x) :: st) sh M) : m_Run G μ tp Qf cells slots pc lv (mi x :: st) sh M :=
  r_lift (fun hx hb k => lv_i2b hx hb hd rfl (by rw [← z_oi ((Int32.ofInt x).toInt8.toInt32)]; exact k)) k
theorem z_div {x y : Int} (hx : -2147483648 ≤ x ∧ x ≤ 2147483647) (hy : 0 < y ∧ y ≤ 2147483647) : Int32.ofInt x / Int32.ofInt y = Int32.ofInt (x.tdiv y) := by
  have h1 : (Int32.ofInt x / Int32.ofInt y).toInt = x.tdiv y := by
    rw [Int32.toInt_div, z_t hx, z_t (by omega)]
    have h3 : (x.tdiv y).natAbs ≤ x.natAbs := Int.natAbs_tdiv_le_natAbs x y
    rw [Int.bmod_eq_of_le (by omega) ?_]
    rcases Int.lt_or_le x 0 with q | q
    · have h5 := Int.tdiv_nonneg (a := -x) (b := y) (by omega) (by omega)
      rw [Int.neg_tdiv] at h5
      omega
    · omega
  rw [← h1, z_oi]
theorem z_divL {x y : Int} (hx : -9223372036854775808 ≤ x ∧ x ≤ 9223372036854775807) (hy : 0 < y ∧ y ≤ 9223372036854775807) : Int64.ofInt x / Int64.ofInt y = Int64.ofInt (x.tdiv y) := by
  have h1 : (Int64.ofInt x / Int64.ofInt y).toInt = x.tdiv y := by
    rw [Int64.toInt_div, z_tl hx, z_tl (by omega)]
    have h3 : (x.tdiv y).natAbs ≤ x.natAbs := Int.natAbs_tdiv_le_natAbs x y
    rw [Int.bmod_eq_of_le (by omega) ?_]
    rcases Int.lt_or_le x 0 with q | q
    · have h5 := Int.tdiv_nonneg (a := -x) (b := y) (by omega) (by omega)
      rw [Int.neg_tdiv] at h5
      omega
    · omega
  rw [← h1, z_ol]
theorem r_ldiv {x y : Int} (hd : decode μ.cc pc = .ok (.ldiv, 1)) (hx : -9223372036854775808 ≤ x ∧ x ≤ 9223372036854775807) (hy : 0 < y ∧ y ≤ 9223372036854775807) (k : m_Run G μ tp Qf cells slots (pc + 1) lv (ml (x.tdiv y) :: st) sh M) : m_Run G μ tp Qf cells slots pc lv (ml y :: ml x :: st) sh M :=
  r_lift (fun hx0 hb k => lv_ldiv hx0 hb hd (fun h => by have := (z_eqL (x := y) (y := 0) (by omega) (by omega)).mp h; omega) (by rw [z_divL hx hy]; exact k)) k
theorem r_lrem {x y : Int} (hd : decode μ.cc pc = .ok (.lrem, 1)) (hx : -9223372036854775808 ≤ x ∧ x ≤ 9223372036854775807) (hy : 0 < y ∧ y ≤ 9223372036854775807) (k : m_Run G μ tp Qf cells slots (pc + 1) lv (ml (x.tmod y) :: st) sh M) : m_Run G μ tp Qf cells slots pc lv (ml y :: ml x :: st) sh M :=
  r_lift (fun hx0 hb k => lv_lrem hx0 hb hd (fun h => by have := (z_eqL (x := y) (y := 0) (by omega) (by omega)).mp h; omega) (by rw [z_divL hx hy, ← Int64.ofInt_mul, ← Int64.ofInt_sub, show x - x.tdiv y * y = x.tmod y by rw [Int.tmod_def, Int.mul_comm]]; exact k)) k
/-! branches -/
theorem r_goto {off : Int} {tgt : Nat} (hd : decode μ.cc pc = .ok (.goto off, 3)) (ht : (pc : Int) + off = (tgt : Int)) (k : m_Run G μ tp Qf cells slots tgt lv st sh M) : m_Run G μ tp Qf cells slots pc lv st sh M := r_lift (fun hx hb k => lv_goto hx hb hd ht k) k
theorem r_if_eq {x : Int} {off : Int} {tgt : Nat} (hd : decode μ.cc pc = .ok (.ifCond .eq off, 3)) (ht : (pc : Int) + off = (tgt : Int)) (h0 : -2147483648 ≤ x ∧ x ≤ 2147483647) (kt : x = 0 → m_Run G μ tp Qf cells slots tgt lv st sh M) (kf : ¬ (x = 0) → m_Run G μ tp Qf cells slots (pc + 3) lv st sh M) : m_Run G μ tp Qf cells slots pc lv (mi x :: st) sh M :=
  fun p e s m args below meth c H locs b A ls C hP hD hS hA h9 hl => lv_if_eq C.1 C.2.1 hd ht (fun q => kt ((z_eq h0 (by omega : (-2147483648 : Int) ≤ 0 ∧ (0 : Int) ≤ 2147483647)).mp q) p e s m args below meth c H locs b A ls C hP hD hS hA h9 hl) (fun q => kf (fun z => q ((z_eq h0 (by omega : (-2147483648 : Int) ≤ 0 ∧ (0 : Int) ≤ 2147483647)).mpr z)) p e s m args below meth c H locs b A ls C hP hD hS hA h9 hl)
theorem r_ic_eq {x y : Int} {off : Int} {tgt : Nat} (hd : decode μ.cc pc = .ok (.if_icmp .eq off, 3)) (ht : (pc : Int) + off = (tgt : Int)) (h0 : (-2147483648 ≤ x ∧ x ≤ 2147483647) ∧ -2147483648 ≤ y ∧ y ≤ 2147483647) (kt : x = y → m_Run G μ tp Qf cells slots tgt lv st sh M) (kf : ¬ (x = y) → m_Run G μ tp Qf cells slots (pc + 3) lv st sh M) : m_Run G μ tp Qf cells slots pc lv (mi y :: mi x :: st) sh M :=
  fun p e s m args below meth c H locs b A ls C hP hD hS hA h9 hl => lv_icmp_eq C.1 C.2.1 hd ht (fun q => kt ((z_eq h0.1 h0.2).mp q) p e s m args below meth c H locs b A ls C hP hD hS hA h9 hl) (fun q => kf (fun z => q ((z_eq h0.1 h0.2).mpr z)) p e s m args below meth c H locs b A ls C hP hD hS hA h9 hl)
theorem r_if_ne {x : Int} {off : Int} {tgt : Nat} (hd : decode μ.cc pc = .ok (.ifCond .ne off, 3)) (ht : (pc : Int) + off = (tgt : Int)) (h0 : -2147483648 ≤ x ∧ x ≤ 2147483647) (kt : x ≠ 0 → m_Run G μ tp Qf cells slots tgt lv st sh M) (kf : x = 0 → m_Run G μ tp Qf cells slots (pc + 3) lv st sh M) : m_Run G μ tp Qf cells slots pc lv (mi x :: st) sh M :=
  fun p e s m args below meth c H locs b A ls C hP hD hS hA h9 hl => lv_if_ne C.1 C.2.1 hd ht (fun q => kt ((not_congr (z_eq h0 (by omega : (-2147483648 : Int) ≤ 0 ∧ (0 : Int) ≤ 2147483647))).mp q) p e s m args below meth c H locs b A ls C hP hD hS hA h9 hl) (fun q => kf ((z_eq h0 (by omega : (-2147483648 : Int) ≤ 0 ∧ (0 : Int) ≤ 2147483647)).mp q) p e s m args below meth c H locs b A ls C hP hD hS hA h9 hl)
theorem r_ic_ne {x y : Int} {off : Int} {tgt : Nat} (hd : decode μ.cc pc = .ok (.if_icmp .ne off, 3)) (ht : (pc : Int) + off = (tgt : Int)) (h0 : (-2147483648 ≤ x ∧ x ≤ 2147483647) ∧ -2147483648 ≤ y ∧ y ≤ 2147483647) (kt : x ≠ y → m_Run G μ tp Qf cells slots tgt lv st sh M) (kf : x = y → m_Run G μ tp Qf cells slots (pc + 3) lv st sh M) : m_Run G μ tp Qf cells slots pc lv (mi y :: mi x :: st) sh M :=
  fun p e s m args below meth c H locs b A ls C hP hD hS hA h9 hl => lv_icmp_ne C.1 C.2.1 hd ht (fun q => kt ((not_congr (z_eq h0.1 h0.2)).mp q) p e s m args below meth c H locs b A ls C hP hD hS hA h9 hl) (fun q => kf ((z_eq h0.1 h0.2).mp q) p e s m args below meth c H locs b A ls C hP hD hS hA h9 hl)
theorem r_if_lt {x : Int} {off : Int} {tgt : Nat} (hd : decode μ.cc pc = .ok (.ifCond .lt off, 3)) (ht : (pc : Int) + off = (tgt : Int)) (h0 : -2147483648 ≤ x ∧ x ≤ 2147483647) (kt : x < 0 → m_Run G μ tp Qf cells slots tgt lv st sh M) (kf : ¬ (x < 0) → m_Run G μ tp Qf cells slots (pc + 3) lv st sh M) : m_Run G μ tp Qf cells slots pc lv (mi x :: st) sh M :=
  fun p e s m args below meth c H locs b A ls C hP hD hS hA h9 hl => lv_if_lt C.1 C.2.1 hd ht (fun q => kt ((z_lt h0 (by omega : (-2147483648 : Int) ≤ 0 ∧ (0 : Int) ≤ 2147483647)).mp q) p e s m args below meth c H locs b A ls C hP hD hS hA h9 hl) (fun q => kf (fun z => q ((z_lt h0 (by omega : (-2147483648 : Int) ≤ 0 ∧ (0 : Int) ≤ 2147483647)).mpr z)) p e s m args below meth c H locs b A ls C hP hD hS hA h9 hl)
theorem r_ic_lt {x y : Int} {off : Int} {tgt : Nat} (hd : decode μ.cc pc = .ok (.if_icmp .lt off, 3)) (ht : (pc : Int) + off = (tgt : Int)) (h0 : (-2147483648 ≤ x ∧ x ≤ 2147483647) ∧ -2147483648 ≤ y ∧ y ≤ 2147483647) (kt : x < y → m_Run G μ tp Qf cells slots tgt lv st sh M) (kf : ¬ (x < y) → m_Run G μ tp Qf cells slots (pc + 3) lv st sh M) : m_Run G μ tp Qf cells slots pc lv (mi y :: mi x :: st) sh M :=
  fun p e s m args below meth c H locs b A ls C hP hD hS hA h9 hl => lv_icmp_lt C.1 C.2.1 hd ht (fun q => kt ((z_lt h0.1 h0.2).mp q) p e s m args below meth c H locs b A ls C hP hD hS hA h9 hl) (fun q => kf (fun z => q ((z_lt h0.1 h0.2).mpr z)) p e s m args below meth c H locs b A ls C hP hD hS hA h9 hl)
theorem r_if_ge {x : Int} {off : Int} {tgt : Nat} (hd : decode μ.cc pc = .ok (.ifCond .ge off, 3)) (ht : (pc : Int) + off = (tgt : Int)) (h0 : -2147483648 ≤ x ∧ x ≤ 2147483647) (kt : 0 ≤ x → m_Run G μ tp Qf cells slots tgt lv st sh M) (kf : ¬ (0 ≤ x) → m_Run G μ tp Qf cells slots (pc + 3) lv st sh M) : m_Run G μ tp Qf cells slots pc lv (mi x :: st) sh M :=
  fun p e s m args below meth c H locs b A ls C hP hD hS hA h9 hl => lv_if_ge C.1 C.2.1 hd ht (fun q => kt ((z_le (by omega : (-2147483648 : Int) ≤ 0 ∧ (0 : Int) ≤ 2147483647) h0).mp q) p e s m args below meth c H locs b A ls C hP hD hS hA h9 hl) (fun q => kf (fun z => q ((z_le (by omega : (-2147483648 : Int) ≤ 0 ∧ (0 : Int) ≤ 2147483647) h0).mpr z)) p e s m args below meth c H locs b A ls C hP hD hS hA h9 hl)
theorem r_ic_ge {x y : Int} {off : Int} {tgt : Nat} (hd : decode μ.cc pc = .ok (.if_icmp .ge off, 3)) (ht : (pc : Int) + off = (tgt : Int)) (h0 : (-2147483648 ≤ x ∧ x ≤ 2147483647) ∧ -2147483648 ≤ y ∧ y ≤ 2147483647) (kt : y ≤ x → m_Run G μ tp Qf cells slots tgt lv st sh M) (kf : ¬ (y ≤ x) → m_Run G μ tp Qf cells slots (pc + 3) lv st sh M) : m_Run G μ tp Qf cells slots pc lv (mi y :: mi x :: st) sh M :=
  fun p e s m args below meth c H locs b A ls C hP hD hS hA h9 hl => lv_icmp_ge C.1 C.2.1 hd ht (fun q => kt ((z_le h0.2 h0.1).mp q) p e s m args below meth c H locs b A ls C hP hD hS hA h9 hl) (fun q => kf (fun z => q ((z_le h0.2 h0.1).mpr z)) p e s m args below meth c H locs b A ls C hP hD hS hA h9 hl)
theorem r_ic_gt {x y : Int} {off : Int} {tgt : Nat} (hd : decode μ.cc pc = .ok (.if_icmp .gt off, 3)) (ht : (pc : Int) + off = (tgt : Int)) (h0 : (-2147483648 ≤ x ∧ x ≤ 2147483647) ∧ -2147483648 ≤ y ∧ y ≤ 2147483647) (kt : y < x → m_Run G μ tp Qf cells slots tgt lv st sh M) (kf : ¬ (y < x) → m_Run G μ tp Qf cells slots (pc + 3) lv st sh M) : m_Run G μ tp Qf cells slots pc lv (mi y :: mi x :: st) sh M :=
  fun p e s m args below meth c H locs b A ls C hP hD hS hA h9 hl => lv_icmp_gt C.1 C.2.1 hd ht (fun q => kt ((z_lt h0.2 h0.1).mp q) p e s m args below meth c H locs b A ls C hP hD hS hA h9 hl) (fun q => kf (fun z => q ((z_lt h0.2 h0.1).mpr z)) p e s m args below meth c H locs b A ls C hP hD hS hA h9 hl)
theorem r_if_le {x : Int} {off : Int} {tgt : Nat} (hd : decode μ.cc pc = .ok (.ifCond .le off, 3)) (ht : (pc : Int) + off = (tgt : Int)) (h0 : -2147483648 ≤ x ∧ x ≤ 2147483647) (kt : x ≤ 0 → m_Run G μ tp Qf cells slots tgt lv st sh M) (kf : ¬ (x ≤ 0) → m_Run G μ tp Qf cells slots (pc + 3) lv st sh M) : m_Run G μ tp Qf cells slots pc lv (mi x :: st) sh M :=
  fun p e s m args below meth c H locs b A ls C hP hD hS hA h9 hl => lv_if_le C.1 C.2.1 hd ht (fun q => kt ((z_le h0 (by omega : (-2147483648 : Int) ≤ 0 ∧ (0 : Int) ≤ 2147483647)).mp q) p e s m args below meth c H locs b A ls C hP hD hS hA h9 hl) (fun q => kf (fun z => q ((z_le h0 (by omega : (-2147483648 : Int) ≤ 0 ∧ (0 : Int) ≤ 2147483647)).mpr z)) p e s m args below meth c H locs b A ls C hP hD hS hA h9 hl)
theorem r_ic_le {x y : Int} {off : Int} {tgt : Nat} (hd : decode μ.cc pc = .ok (.if_icmp .le off, 3)) (ht : (pc : Int) + off = (tgt : Int)) (h0 : (-2147483648 ≤ x ∧ x ≤ 2147483647) ∧ -2147483648 ≤ y ∧ y ≤ 2147483647) (kt : x ≤ y → m_Run G μ tp Qf cells slots tgt lv st sh M) (kf : ¬ (x ≤ y) → m_Run G μ tp Qf cells slots (pc + 3) lv st sh M) : m_Run G μ tp Qf cells slots pc lv (mi y :: mi x :: st) sh M :=
  fun p e s m args below meth c H locs b A ls C hP hD hS hA h9 hl => lv_icmp_le C.1 C.2.1 hd ht (fun q => kt ((z_le h0.1 h0.2).mp q) p e s m args below meth c H locs b A ls C hP hD hS hA h9 hl) (fun q => kf (fun z => q ((z_le h0.1 h0.2).mpr z)) p e s m args below meth c H locs b A ls C hP hD hS hA h9 hl)
def z_cmp (x y : Int) : Int := if x < y then -1 else if x = y then 0 else 1
theorem r_lcmp {x y : Int} (hd : decode μ.cc pc = .ok (.lcmp, 1)) (h0 : (-9223372036854775808 ≤ x ∧ x ≤ 9223372036854775807) ∧ -9223372036854775808 ≤ y ∧ y ≤ 9223372036854775807) (k : m_Run G μ tp Qf cells slots (pc + 1) lv (mi (z_cmp x y) :: st) sh M) : m_Run G μ tp Qf cells slots pc lv (ml y :: ml x :: st) sh M :=
  r_lift (fun hx hb k => W.lcmp hx hb hd (by
    have e : lg_cmp (Int64.ofInt x) (Int64.ofInt y) = Int32.ofInt (z_cmp x y) := by
      have h1 := z_ltL h0.1 h0.2
      have h2 := z_eqL h0.1 h0.2
      have h3 := z_ltL h0.2 h0.1
      unfold lg_cmp z_cmp
      by_cases q : x < y
      · have r : ¬ y < x := by omega
        have t : ¬ x = y := by omega
        simp [h1, h2, h3, q, r, t]
      · by_cases r : x = y
        · subst r
          simp
        · have t : y < x := by omega
          simp [h1, h2, h3, q, r, t]
    rw [e]; exact k)) k
theorem z_cmp_rng (x y : Int) : -2147483648 ≤ z_cmp x y ∧ z_cmp x y ≤ 2147483647 := by unfold z_cmp; split <;> (try split) <;> omega
theorem z_cmp_eq {x y : Int} : z_cmp x y = 0 ↔ x = y := by unfold z_cmp; split <;> (try split) <;> omega
theorem z_cmp_lt {x y : Int} : z_cmp x y < 0 ↔ x < y := by unfold z_cmp; split <;> (try split) <;> omega
theorem z_cmp_le {x y : Int} : z_cmp x y ≤ 0 ↔ x ≤ y := by unfold z_cmp; split <;> (try split) <;> omega
theorem z_cmp_gt {x y : Int} : 0 < z_cmp x y ↔ y < x := by unfold z_cmp; split <;> (try split) <;> omega
theorem z_cmp_ge {x y : Int} : 0 ≤ z_cmp x y ↔ y ≤ x := by unfold z_cmp; split <;> (try split) <;> omega
theorem z_cmp_ne {x y : Int} : z_cmp x y ≠ 0 ↔ x ≠ y := not_congr z_cmp_eq
theorem r_lc_eq {x y : Int} {off : Int} {tgt : Nat} (hd : decode μ.cc pc = .ok (.lcmp, 1)) (hd2 : decode μ.cc (pc + 1) = .ok (.ifCond .eq off, 3)) (ht : ((pc + 1 : Nat) : Int) + off = (tgt : Int)) (h0 : (-9223372036854775808 ≤ x ∧ x ≤ 9223372036854775807) ∧ -9223372036854775808 ≤ y ∧ y ≤ 9223372036854775807) (kt : x = y → m_Run G μ tp Qf cells slots tgt lv st sh M) (kf : ¬ (x = y) → m_Run G μ tp Qf cells slots (pc + 4) lv st sh M) : m_Run G μ tp Qf cells slots pc lv (ml y :: ml x :: st) sh M :=
  r_lcmp hd h0 (r_if_eq hd2 ht (z_cmp_rng x y) (fun q => kt (z_cmp_eq.mp q)) (fun q => kf (fun z => q (z_cmp_eq.mpr z))))
theorem r_lc_ne {x y : Int} {off : Int} {tgt : Nat} (hd : decode μ.cc pc = .ok (.lcmp, 1)) (hd2 : decode μ.cc (pc + 1) = .ok (.ifCond .ne off, 3)) (ht : ((pc + 1 : Nat) : Int) + off = (tgt : Int)) (h0 : (-9223372036854775808 ≤ x ∧ x ≤ 9223372036854775807) ∧ -9223372036854775808 ≤ y ∧ y ≤ 9223372036854775807) (kt : x ≠ y → m_Run G μ tp Qf cells slots tgt lv st sh M) (kf : x = y → m_Run G μ tp Qf cells slots (pc + 4) lv st sh M) : m_Run G μ tp Qf cells slots pc lv (ml y :: ml x :: st) sh M :=
  r_lcmp hd h0 (r_if_ne hd2 ht (z_cmp_rng x y) (fun q => kt (z_cmp_ne.mp q)) (fun q => kf (z_cmp_eq.mp q)))
theorem r_lc_lt {x y : Int} {off : Int} {tgt : Nat} (hd : decode μ.cc pc = .ok (.lcmp, 1)) (hd2 : decode μ.cc (pc + 1) = .ok (.ifCond .lt off, 3)) (ht : ((pc + 1 : Nat) : Int) + off = (tgt : Int)) (h0 : (-9223372036854775808 ≤ x ∧ x ≤ 9223372036854775807) ∧ -9223372036854775808 ≤ y ∧ y ≤ 9223372036854775807) (kt : x < y → m_Run G μ tp Qf cells slots tgt lv st sh M) (kf : ¬ (x < y) → m_Run G μ tp Qf cells slots (pc + 4) lv st sh M) : m_Run G μ tp Qf cells slots pc lv (ml y :: ml x :: st) sh M :=
  r_lcmp hd h0 (r_if_lt hd2 ht (z_cmp_rng x y) (fun q => kt (z_cmp_lt.mp q)) (fun q => kf (fun z => q (z_cmp_lt.mpr z))))
theorem r_lc_ge {x y : Int} {off : Int} {tgt : Nat} (hd : decode μ.cc pc = .ok (.lcmp, 1)) (hd2 : decode μ.cc (pc + 1) = .ok (.ifCond .ge off, 3)) (ht : ((pc + 1 : Nat) : Int) + off = (tgt : Int)) (h0 : (-9223372036854775808 ≤ x ∧ x ≤ 9223372036854775807) ∧ -9223372036854775808 ≤ y ∧ y ≤ 9223372036854775807) (kt : y ≤ x → m_Run G μ tp Qf cells slots tgt lv st sh M) (kf : ¬ (y ≤ x) → m_Run G μ tp Qf cells slots (pc + 4) lv st sh M) : m_Run G μ tp Qf cells slots pc lv (ml y :: ml x :: st) sh M :=
  r_lcmp hd h0 (r_if_ge hd2 ht (z_cmp_rng x y) (fun q => kt (z_cmp_ge.mp q)) (fun q => kf (fun z => q (z_cmp_ge.mpr z))))
theorem r_lc_le {x y : Int} {off : Int} {tgt : Nat} (hd : decode μ.cc pc = .ok (.lcmp, 1)) (hd2 : decode μ.cc (pc + 1) = .ok (.ifCond .le off, 3)) (ht : ((pc + 1 : Nat) : Int) + off = (tgt : Int)) (h0 : (-9223372036854775808 ≤ x ∧ x ≤ 9223372036854775807) ∧ -9223372036854775808 ≤ y ∧ y ≤ 9223372036854775807) (kt : x ≤ y → m_Run G μ tp Qf cells slots tgt lv st sh M) (kf : ¬ (x ≤ y) → m_Run G μ tp Qf cells slots (pc + 4) lv st sh M) : m_Run G μ tp Qf cells slots pc lv (ml y :: ml x :: st) sh M :=
  r_lcmp hd h0 (r_if_le hd2 ht (z_cmp_rng x y) (fun q => kt (z_cmp_le.mp q)) (fun q => kf (fun z => q (z_cmp_le.mpr z))))
theorem r_tswIn {dflt lo hi : Int} {offs : Array Int} {len : Nat} {x off : Int} {tgt : Nat} (hd : decode μ.cc pc = .ok (.tableswitch dflt lo hi offs, len)) (h0 : -2147483648 ≤ x ∧ x ≤ 2147483647) (h1 : lo ≤ x ∧ x ≤ hi) (ho : offs[(x - lo).toNat]? = some off) (ht : (pc : Int) + off = (tgt : Int))
    (k : m_Run G μ tp Qf cells slots tgt lv st sh M) : m_Run G μ tp Qf cells slots pc lv (mi x :: st) sh M :=
  r_lift (fun hx hb k => lv_tableIn hx hb hd (by rw [z_t h0]; omega) (by rw [z_t h0]; omega) (by rw [z_t h0]; exact ho) ht k) k
theorem r_tswOut {dflt lo hi : Int} {offs : Array Int} {len : Nat} {x : Int} {tgt : Nat} (hd : decode μ.cc pc = .ok (.tableswitch dflt lo hi offs, len)) (h0 : -2147483648 ≤ x ∧ x ≤ 2147483647) (h1 : x < lo ∨ hi < x) (ht : (pc : Int) + dflt = (tgt : Int))
    (k : m_Run G μ tp Qf cells slots tgt lv st sh M) : m_Run G μ tp Qf cells slots pc lv (mi x :: st) sh M :=
  r_lift (fun hx hb k => lv_tableOut hx hb hd (by rw [z_t h0]; exact h1) ht k) k
end

/-! THE SMALL MACHINE'S RULES: new cells, Object's constructor, Math, arraycopy. -/
theorem m_zap_at {M : MM} {a : Nat} (j : Int) : (m_zap M a).1 a j = 0 ∧ (m_zap M a).2.1 a j = 0 ∧ (m_zap M a).2.2 a j = none := by simp [m_zap, m_cl]
theorem m_zap_ne {M : MM} {a c : Nat} (h : c ≠ a) (j : Int) : (m_zap M a).1 c j = M.1 c j ∧ (m_zap M a).2.1 c j = M.2.1 c j ∧ (m_zap M a).2.2 c j = M.2.2 c j := by simp [m_zap, m_cl, h]
theorem m_ws_len {G : GT} {b : Nat} {sh : MS} {M : MM} : (m_ws G b sh M).length = sh.length := by simp [m_ws]
theorem m_ws_app {G : GT} {b : Nat} {sh ext : MS} {M M' : MM} (h : ∀ c d, sh[c]? = some d → m_en G b M' c d = m_en G b M c d) :
    m_ws G b (sh ++ ext) M' = m_ws G b sh M ++ ext.mapIdx (fun i d => (b + (sh.length + i), m_en G b M' (sh.length + i) d)) := by
  apply List.ext_getElem?
  intro c
  by_cases hc : c < sh.length
  · rw [List.getElem?_append_left (by rw [m_ws_len]; exact hc)]
    have h0 := List.getElem?_eq_getElem hc
    rw [m_ws_at (by rw [List.getElem?_append_left hc]; exact h0), m_ws_at h0, h c _ h0]
  · rw [List.getElem?_append_right (by rw [m_ws_len]; omega), m_ws_len]
    simp only [m_ws, List.getElem?_mapIdx]
    rw [List.getElem?_append_right (by omega)]
    rw [show sh.length + (c - sh.length) = c by omega]
theorem m_ws_push {G : GT} {b : Nat} {sh : MS} {M : MM} (d : Nat ⊕ (Nat × Nat)) : m_ws G b (sh ++ [d]) (m_zap M sh.length) = m_ws G b sh M ++ [(b + sh.length, m_en G b (m_zap M sh.length) sh.length d)] := by
  rw [m_ws_app (M := M) (fun c d' hc => by
    have hl : c ≠ sh.length := by have := (List.getElem?_eq_some_iff.mp hc).1; omega
    exact m_en_keep (M := M) (M' := m_zap M sh.length) (c := c) (fun j => (m_zap_ne hl j).1) (fun j => (m_zap_ne hl j).2.1) (fun j => (m_zap_ne hl j).2.2) d')]
  rfl
def m_okT : FieldType → Bool
  | .float => false | .double => false | _ => true
theorem m_fv_zap {b a k : Nat} {M : MM} {ty : FieldType} (h : m_okT ty = true) : m_fv b (m_zap M a) a ty k = defaultValue ty := by
  have h1 := fun j => (m_zap_at (M := M) (a := a) j).1
  have h2 := fun j => (m_zap_at (M := M) (a := a) j).2.1
  have h3 := fun j => (m_zap_at (M := M) (a := a) j).2.2
  cases ty <;> first | (simp only [m_fv, h1, h2, h3]; rfl) | (simp [m_okT] at h)
theorem m_outer (c : ClassId) (N h0 : Nat) : ∀ i : Nat, Jvm.Free.Multi.outerC c N h0 i = arrV c N (fun j => va_rf (if j < i then some (h0 + 1 + j) else none))
  | 0 => by
    show ({ cls := c, slots := Array.replicate N .null, vm := .none } : Cell) = _
    simp only [arrV, va_rf, Nat.not_lt_zero, if_false]
    congr 1
    apply Array.ext <;> simp
  | i + 1 => by
    show (Jvm.Free.Multi.outerC c N h0 i).setSlot i (.ref (h0 + 1 + i)) = _
    rw [m_outer c N h0 i, arrV_store]
    congr 1
    funext j
    unfold updV
    by_cases hj : j = i
    · subst hj; simp [va_rf]
    · by_cases h2 : j < i
      · simp [hj, h2, show j < i + 1 by omega]
      · simp [hj, h2, show ¬ j < i + 1 by omega]
section
variable {G : GT} {μ : MT} {tp : Bool} {Qf : Option MV → MS → MM → Prop} {cells slots pc : Nat} {lv : List (Nat × MV)} {st : List MV} {sh : MS} {M : MM}
theorem r_new {idx ci N a : Nat} {q : vw_C} (hd : decode μ.cc pc = .ok (.new idx, 3)) (hq : vwCl[ci]? = some q) (hw : Cond.classLink μ.y.cls idx q.1 ∈ m_tbl) (hw2 : Cond.instantiable q.1 N ∈ m_tbl) (hw3 : Cond.initialized q.1 ∈ m_tbl) (hok : (List.range (m_nf ci)).all (fun k => m_okT (m_fty ci k)) = true) (hm : cells + 1 ≤ μ.mc ∧ slots + N ≤ μ.ms) (ha : sh.length = a)
    (kk : m_Run G μ true Qf (cells + 1) (slots + N) (pc + 3) lv (mr a :: st) (sh ++ [.inl ci]) (m_zap M a)) : m_Run G μ true Qf cells slots pc lv st sh M := by
  subst ha
  intro p e s m args below meth c' H locs b A ls C hP hD hS hA ht hl
  have F := m_cls hq
  obtain ⟨hx, hb, hml, hr, hlocks, hown, hts, hin, hKK⟩ := id C
  have hKn := hKK.1.1 ci q hq
  have hz : H.size = b + sh.length := ht rfl
  refine W.newcK hx hb hown (hts _ hw) (hts _ hw2) (hts _ hw3) rfl hd hm.1 hm.2 hKn.2.1 hz fun H1 kC hkC e1 z1 o1 => ?_
  have hk : ∀ (k : Nat) (x : Nat × va_E), (m_ws G b sh M)[k]? = some x → H1[x.1]? = H[x.1]? := fun k x hx => o1 x.1 (by rw [← hz]; exact (hP k x hx).lt)
  have hP1 : va_P G.2.1 vwCl (m_ws G b (sh ++ [.inl ci]) (m_zap M sh.length)) H1 := by
    rw [m_ws_push]
    refine (hP.kept hk).app (fun k x hx => ?_)
    have h0 : k < 1 := (List.getElem?_eq_some_iff.mp hx).1
    rw [show k = 0 by omega] at hx
    cases hx
    refine ⟨_, hq, (u_born (m_fty ci) hts F.1 hKn hkC e1 F.2.2.1).to (fun j hj => ?_)⟩
    have hj2 : j < m_nf ci := by rw [← F.2.2.2]; exact hj
    have h9 := List.all_eq_true.mp hok j (List.mem_range.mpr hj2)
    show defaultValue (m_fty ci j) = vp_V (m_fs b (m_zap M sh.length) sh.length ci) j
    simp only [vp_V, List.getD_eq_getElem?_getD, m_fs_at hj2, Option.getD_some, m_fv_zap h9]
  have hD1 : va_D A (m_ws G b (sh ++ [.inl ci]) (m_zap M sh.length)) := by
    rw [m_ws_push]
    exact hD.push hP hz.symm (hA _ (by rw [← hz]; exact hS.1))
  exact kk p e s m args below meth c' H1 locs b A ls C hP1 hD1 ⟨Nat.le_trans hS.1 (by omega), fun x h1 h2 => (o1 x (by have := hS.1; omega)).trans (hS.2.1 x h1 h2), hS.2.2⟩ hA (fun _ => by rw [z1]; simp; omega) hl
theorem r_newa {at_ : ArrayType} {kd N a : Nat} {n : Int} (hd : decode μ.cc pc = .ok (.newarray at_, 2)) (hkd : (at_ = .int ∧ kd = 0) ∨ (at_ = .long ∧ kd = 1) ∨ (at_ = .int ∧ kd = 2)) (hw : Cond.arrayClass (newarray.typeOf at_) ∈ m_tbl) (hn : ((N : Nat) : Int) = n ∧ N ≤ 60000) (hm : cells + 1 ≤ μ.mc ∧ slots + N ≤ μ.ms) (ha : sh.length = a)
    (kk : m_Run G μ true Qf (cells + 1) (slots + N) (pc + 2) lv (mr a :: st) (sh ++ [.inr (kd, N)]) (m_zap M a)) : m_Run G μ true Qf cells slots pc lv (mi n :: st) sh M := by
  subst ha
  intro p e s m args below meth c' H locs b A ls C hP hD hS hA ht hl
  obtain ⟨hx, hb, hml, hr, hlocks, hown, hts, hin, hKK⟩ := id C
  have hz : H.size = b + sh.length := ht rfl
  have h0 := z_t (x := n) (by omega)
  have hnn : ¬ Int32.ofInt n < 0 := by rw [Int32.lt_iff_toInt_lt, h0, Int32.toInt_zero]; omega
  have hN : (Int32.ofInt n).toNatClampNeg = N := by
    have : ((Int32.ofInt n).toNatClampNeg : Int) = n := by rw [← Int32.toNat_toInt, h0]; omega
    omega
  refine va_newaK hx hb (hts _ hw) rfl hd rfl hnn hN (by rcases hkd with ⟨rfl, -⟩ | ⟨rfl, -⟩ | ⟨rfl, -⟩ <;> simp [newarray.typeOf, componentBytes] <;> omega) hm.1 hm.2 hz fun H1 cA e1 z1 o1 hAr hNm => ?_
  have hk : ∀ (k : Nat) (x : Nat × va_E), (m_ws G b sh M)[k]? = some x → H1[x.1]? = H[x.1]? := fun k x hx => o1 x.1 (by rw [← hz]; exact (hP k x hx).lt)
  have hen : va_at G.2.1 vwCl (b + sh.length, m_en G b (m_zap M sh.length) sh.length (.inr (kd, N))) H1 := by
    rcases hkd with ⟨rfl, rfl⟩ | ⟨rfl, rfl⟩ | ⟨rfl, rfl⟩
    · have hcA : some (G.2.2 0) = some cA := ((hKK.1.2 0 _ rfl).2).symm.trans hNm
      cases hcA
      show H1[b + sh.length]? = some (vp_cell (G.2.2 0) (N, .inl _))
      rw [e1, vp_cell_i]
      simp only [m_zap_at]
      rfl
    · have hcA : some (G.2.2 1) = some cA := ((hKK.1.2 1 _ rfl).2).symm.trans hNm
      cases hcA
      show H1[b + sh.length]? = some (vp_cell (G.2.2 1) (N, .inr (.inl _)))
      rw [e1, vp_cell_l]
      simp only [m_zap_at]
      rfl
    · have hcA : some (G.2.2 2) = some cA := ((hKK.1.2 2 _ rfl).2).symm.trans hNm
      cases hcA
      show H1[b + sh.length]? = some (vp_cell (G.2.2 2) (N, .inl _))
      rw [e1, vp_cell_i]
      simp only [m_zap_at]
      rfl
  have hP1 : va_P G.2.1 vwCl (m_ws G b (sh ++ [.inr (kd, N)]) (m_zap M sh.length)) H1 := by
    rw [m_ws_push]
    refine (hP.kept hk).app (fun k x hx => ?_)
    have h0 : k < 1 := (List.getElem?_eq_some_iff.mp hx).1
    rw [show k = 0 by omega] at hx
    cases hx
    exact hen
  have hD1 : va_D A (m_ws G b (sh ++ [.inr (kd, N)]) (m_zap M sh.length)) := by
    rw [m_ws_push]
    exact hD.push hP hz.symm (hA _ (by rw [← hz]; exact hS.1))
  exact kk p e s m args below meth c' H1 locs b A ls C hP1 hD1 ⟨Nat.le_trans hS.1 (by omega), fun x h1 h2 => (o1 x (by have := hS.1; omega)).trans (hS.2.1 x h1 h2), hS.2.2⟩ hA (fun _ => by rw [z1]; simp; omega) hl
/-- new int[N][K]: the outer row, then the inner ones -/
def m_grid (M : MM) (a N : Nat) : MM := (fun c j => if a ≤ c then 0 else M.1 c j, fun c j => if a ≤ c then 0 else M.2.1 c j, fun c j => if c = a then (if j.toNat < N then some (a + 1 + j.toNat) else none) else if a ≤ c then none else M.2.2 c j)
theorem r_mna {idx N K a : Nat} {n k : Int} (hd : decode μ.cc pc = .ok (.multianewarray idx 2, 4)) (hw : Cond.classLink μ.y.cls idx ("[" ++ (FieldType.array .int).toString) ∈ m_tbl) (hw2 : Cond.arrayClass .int ∈ m_tbl) (hn : ((N : Nat) : Int) = n ∧ ((K : Nat) : Int) = k ∧ N ≤ 60000 ∧ K ≤ 60000) (hm : cells + (1 + N) ≤ μ.mc ∧ slots + (N + N * K) ≤ μ.ms) (ha : sh.length = a)
    (kk : m_Run G μ true Qf (cells + (1 + N)) (slots + (N + N * K)) (pc + 4) lv (mr a :: st) (sh ++ (.inr (3, N) :: List.replicate N (.inr (0, K)))) (m_grid M a N)) : m_Run G μ true Qf cells slots pc lv (mi k :: mi n :: st) sh M := by
  subst ha
  intro p e s m args below meth c' H locs b A ls C hP hD hS hA ht hl
  obtain ⟨hx, hb, hml, hr, hlocks, hown, hts, hin, hKK⟩ := id C
  have hz : H.size = b + sh.length := ht rfl
  have h1 := z_t (x := n) (by omega)
  have h2 := z_t (x := k) (by omega)
  have hn1 : ¬ Int32.ofInt n < 0 := by rw [Int32.lt_iff_toInt_lt, h1, Int32.toInt_zero]; omega
  have hn2 : ¬ Int32.ofInt k < 0 := by rw [Int32.lt_iff_toInt_lt, h2, Int32.toInt_zero]; omega
  have hN : (Int32.ofInt n).toNatClampNeg = N := by
    have : ((Int32.ofInt n).toNatClampNeg : Int) = n := by rw [← Int32.toNat_toInt, h1]; omega
    omega
  have hK : (Int32.ofInt k).toNatClampNeg = K := by
    have : ((Int32.ofInt k).toNatClampNeg : Int) = k := by rw [← Int32.toNat_toInt, h2]; omega
    omega
  intro T hT Xs
  obtain ⟨vm₁, cA, comp, -, fA, fC, -, -, X', step⟩ := Xs.multianewarray2F hx hown (hts _ hw) hKK.2.2 (hts _ hw2) (g := F0 m pc ls (.int (Int32.ofInt k) :: .int (Int32.ofInt n) :: st.map (m_tv b))) rfl (by rw [hb]; exact hd) rfl hn1 hn2 (by rw [hN]; omega) (by rw [hK]; simp [componentBytes]; omega) (by rw [hK]; omega) rfl rfl (by rw [hN]; exact Nat.le_trans hm.1 (Nat.le_refl _)) (by rw [hN, hK]; exact hm.2)
  have hcA : some (G.2.2 3) = some cA := ((hKK.1.2 3 _ rfl).2).symm.trans fA
  have hcI : some (G.2.2 0) = some comp := ((hKK.1.2 0 _ rfl).2).symm.trans fC
  cases hcA
  cases hcI
  rw [hN, hK] at X' step
  generalize hF : Jvm.Free.Multi.fill (T.setVm vm₁) (G.2.2 3) (G.2.2 0) N K (defaultValue .int) N = F at X' step
  have hTh : (T.setVm vm₁).heap = H := hT
  obtain ⟨f1, f2, -, -⟩ := Jvm.Free.Multi.fill_facts (T.setVm vm₁) (G.2.2 3) (G.2.2 0) N K (defaultValue .int) N
  rw [hF, hTh] at f1 f2
  have hold : ∀ x : Nat, x < H.size → F.heap[x]? = H[x]? := fun x hx => by
    have := Jvm.Free.Multi.fill_old (T.setVm vm₁) (G.2.2 3) (G.2.2 0) N K (defaultValue .int) (a := x) (by rw [hTh]; exact hx) N
    rw [hF, hTh] at this
    exact this
  have hrow : ∀ j : Nat, j < N → F.heap[H.size + 1 + j]? = some (vp_cell (G.2.2 0) (K, .inl (fun _ => 0))) := fun j hj => by
    have := Jvm.Free.Multi.fill_inner (T.setVm vm₁) (G.2.2 3) (G.2.2 0) N K (defaultValue .int) N j hj
    rw [hF, hTh] at this
    rw [this, vp_cell_i]
    simp only [Jvm.Free.Multi.innerC, arrV, defaultValue]
    congr 2
    apply Array.ext <;> simp
  have hout : Jvm.Free.Multi.outerC (G.2.2 3) N H.size N = vp_cell (G.2.2 3) (N, .inr (.inr (.inr (.inr (fun i => if i < N then some (H.size + 1 + i) else none))))) := by
    rw [vp_cell_q]
    exact m_outer (G.2.2 3) N H.size N
  rw [hout] at f2
  have hlen : (sh ++ (.inr (3, N) :: List.replicate N (.inr (0, K))) : MS).length = sh.length + 1 + N := by simp; omega
  have hg : ∀ c d, sh[c]? = some d → m_en G b (m_grid M sh.length N) c d = m_en G b M c d := fun c d hc => by
    have hl : c < sh.length := (List.getElem?_eq_some_iff.mp hc).1
    exact m_en_keep (M := M) (M' := m_grid M sh.length N) (c := c) (fun j => by simp [m_grid, Nat.not_le.mpr hl]) (fun j => by simp [m_grid, Nat.not_le.mpr hl]) (fun j => by simp [m_grid, Nat.not_le.mpr hl, Nat.ne_of_lt hl]) d
  have hP1 : va_P G.2.1 vwCl (m_ws G b (sh ++ (.inr (3, N) :: List.replicate N (.inr (0, K)))) (m_grid M sh.length N)) F.heap := by
    intro c x hx
    by_cases hc : c < sh.length
    · rw [m_ws_app hg, List.getElem?_append_left (by rw [m_ws_len]; exact hc)] at hx
      exact (hP c x hx).kept (hold x.1 ((hP c x hx).lt))
    · have hc2 : c < sh.length + 1 + N := by have := (List.getElem?_eq_some_iff.mp hx).1; rw [m_ws_len, hlen] at this; exact this
      by_cases hc3 : c = sh.length
      · subst hc3
        rw [m_ws_at (d := .inr (3, N)) (by rw [List.getElem?_append_right (by omega)]; simp)] at hx
        cases hx
        show F.heap[b + sh.length]? = some (vp_cell (G.2.2 3) (N, .inr (.inr (.inr (.inr _)))))
        rw [← hz, f2, hz]
        refine congrArg (fun g : Nat → Option Nat => some (vp_cell (G.2.2 3) (N, .inr (.inr (.inr (.inr g)))))) ?_
        funext i
        show (if i < N then some (b + sh.length + 1 + i) else none) = Option.map (fun x => b + x) (if sh.length = sh.length then (if (i : Int).toNat < N then some (sh.length + 1 + (i : Int).toNat) else none) else _)
        rw [if_pos rfl, Int.toNat_natCast]
        by_cases hi : i < N
        · rw [if_pos hi, if_pos hi]
          show some (b + sh.length + 1 + i) = some (b + (sh.length + 1 + i))
          congr 1
          omega
        · rw [if_neg hi, if_neg hi]
          rfl
      · rw [m_ws_at (d := .inr (0, K)) (by
          rw [List.getElem?_append_right (by omega), show c - sh.length = (c - sh.length - 1) + 1 by omega, List.getElem?_cons_succ, List.getElem?_replicate, if_pos (by omega)])] at hx
        cases hx
        show F.heap[b + c]? = some (vp_cell (G.2.2 0) (K, .inl _))
        have h5 := hrow (c - sh.length - 1) (by omega)
        rw [show H.size + 1 + (c - sh.length - 1) = b + c by omega] at h5
        rw [h5]
        simp only [m_grid, show sh.length ≤ c by omega, if_true]
        rfl
  have hD1 : va_D A (m_ws G b (sh ++ (.inr (3, N) :: List.replicate N (.inr (0, K)))) (m_grid M sh.length N)) := by
    have key : ∀ (c : Nat) (x : Nat × va_E), (m_ws G b (sh ++ (.inr (3, N) :: List.replicate N (.inr (0, K)))) (m_grid M sh.length N))[c]? = some x → x.1 = b + c := fun c x hx => by
      simp only [m_ws, List.getElem?_mapIdx, Option.map_eq_some_iff] at hx
      obtain ⟨d, -, rfl⟩ := hx
      rfl
    refine ⟨fun i j p q hi hj hpq => ?_, fun c x hx => ?_⟩
    · have := key i p hi
      have := key j q hj
      omega
    · by_cases hc : c < sh.length
      · rw [m_ws_app hg, List.getElem?_append_left (by rw [m_ws_len]; exact hc)] at hx
        exact hD.2 c x hx
      · rw [key c x hx]
        exact hA _ (by have := hS.1; omega)
  have K9 := kk p e s m args below meth c' F.heap locs b A ls C hP1 hD1 ⟨Nat.le_trans hS.1 (by rw [f1]; omega), fun x h1 h2 => (hold x (by have := hS.1; omega)).trans (hS.2.1 x h1 h2), hS.2.2⟩ hA (fun _ => by rw [f1, hlen]; omega) hl
  obtain ⟨t, a1, b1⟩ := K9 F rfl (by first | exact X' | (rw [show cells + (1 + N) = cells + 1 + N by omega, show slots + (N + N * K) = slots + N + N * K by omega]; exact X'))
  refine ⟨t, step t ?_, b1⟩
  have e9 : T.heap.size = b + sh.length := by rw [hT]; exact hz
  rw [e9]
  exact a1
theorem r_objInit {idx a : Nat} (hd : decode μ.cc pc = .ok (.invokespecial idx, 3)) (hw : Cond.methodLink μ.y.cls idx Lib.objectInit ∈ m_tbl) (hw2 : Cond.instanceMethod Lib.objectInit ∈ m_tbl) (hw3 : Cond.code Lib.objectInit ⟨#[0xb1]⟩ 1 none ∈ m_tbl) (hr : (Nat.ble 1 μ.fr && Nat.ble (m_wid st + 12) μ.lo) = true)
    (k : m_Run G μ tp Qf cells slots (pc + 3) lv st sh M) : m_Run G μ tp Qf cells slots pc lv (mr a :: st) sh M := by
  intro p e s m args below meth c' H locs b A ls C hP hD hS hA ht hl
  simp only [Bool.and_eq_true] at hr
  exact W.objInit C.1 C.2.1 C.2.2.2.2.2.1 (C.2.2.2.2.2.2.1 _ hw) (C.2.2.2.2.2.2.1 _ hw2) (C.2.2.2.2.2.2.1 _ hw3) rfl (hl.1.trans C.2.2.1.symm) (a := b + a) (rest := st.map (m_tv b)) rfl hd (Nat.le_of_ble_eq_true hr.1) (by rw [m_wid_sum]; show 2 * 0 + _ + 12 ≤ μ.lo; have := Nat.le_of_ble_eq_true hr.2; omega) (k p e s m args below meth c' H locs b A ls C hP hD hS hA ht hl)
/-! Math -/
theorem r_imax {idx : Nat} {x y : Int} (hd : decode μ.cc pc = .ok (.invokestatic idx, 3)) (hw : Cond.methodLink μ.y.cls idx Lib.Math.max.name ∈ m_tbl ∧ Cond.static Lib.Math.max.name ∈ m_tbl ∧ Cond.initialized "java/lang/Math" ∈ m_tbl ∧ Cond.code Lib.Math.max.name Lib.Math.max.code 2 (some .int) ∈ m_tbl) (hr : (Nat.ble 1 μ.fr && Nat.ble (m_wid st + 13) μ.lo) = true) (hm : cells ≤ μ.mc ∧ slots ≤ μ.ms) (h0 : (-2147483648 ≤ x ∧ x ≤ 2147483647) ∧ -2147483648 ≤ y ∧ y ≤ 2147483647)
    (k : m_Run G μ tp Qf cells slots (pc + 3) lv (mi (max x y) :: st) sh M) : m_Run G μ tp Qf cells slots pc lv (mi y :: mi x :: st) sh M := by
  intro p e s m args below meth c' H locs b A ls C hP hD hS hA ht hl
  simp only [Bool.and_eq_true] at hr
  refine va_mmax C.1 C.2.1 (C.2.2.1.trans hl.1.symm) C.2.2.2.2.2.1 (C.2.2.2.2.2.2.1 _ hw.1) (C.2.2.2.2.2.2.1 _ hw.2.1) (C.2.2.2.2.2.2.1 _ hw.2.2.1) (C.2.2.2.2.2.2.1 _ hw.2.2.2) (Nat.le_of_ble_eq_true hr.1) (by rw [m_wid_sum]; exact Nat.le_of_ble_eq_true hr.2) hm.1 hm.2 hd ?_
  have e9 : (if Int32.ofInt x < Int32.ofInt y then Int32.ofInt y else Int32.ofInt x) = Int32.ofInt (max x y) := by
    have := z_lt h0.1 h0.2
    by_cases q : x < y
    · rw [if_pos (this.mpr q), show max x y = y by omega]
    · rw [if_neg (fun z => q (this.mp z)), show max x y = x by omega]
  rw [e9]
  exact k p e s m args below meth c' H locs b A ls C hP hD hS hA ht hl
theorem r_imin {idx : Nat} {x y : Int} (hd : decode μ.cc pc = .ok (.invokestatic idx, 3)) (hw : Cond.methodLink μ.y.cls idx Lib.Math.min.name ∈ m_tbl ∧ Cond.static Lib.Math.min.name ∈ m_tbl ∧ Cond.initialized "java/lang/Math" ∈ m_tbl ∧ Cond.code Lib.Math.min.name Lib.Math.min.code 2 (some .int) ∈ m_tbl) (hr : (Nat.ble 1 μ.fr && Nat.ble (m_wid st + 13) μ.lo) = true) (hm : cells ≤ μ.mc ∧ slots ≤ μ.ms) (h0 : (-2147483648 ≤ x ∧ x ≤ 2147483647) ∧ -2147483648 ≤ y ∧ y ≤ 2147483647)
    (k : m_Run G μ tp Qf cells slots (pc + 3) lv (mi (min x y) :: st) sh M) : m_Run G μ tp Qf cells slots pc lv (mi y :: mi x :: st) sh M := by
  intro p e s m args below meth c' H locs b A ls C hP hD hS hA ht hl
  simp only [Bool.and_eq_true] at hr
  refine va_mmin C.1 C.2.1 (C.2.2.1.trans hl.1.symm) C.2.2.2.2.2.1 (C.2.2.2.2.2.2.1 _ hw.1) (C.2.2.2.2.2.2.1 _ hw.2.1) (C.2.2.2.2.2.2.1 _ hw.2.2.1) (C.2.2.2.2.2.2.1 _ hw.2.2.2) (Nat.le_of_ble_eq_true hr.1) (by rw [m_wid_sum]; exact Nat.le_of_ble_eq_true hr.2) hm.1 hm.2 hd ?_
  have K := k p e s m args below meth c' H locs b A ls C hP hD hS hA ht hl
  have h2 := z_lt h0.2 h0.1
  by_cases q : y < x
  · rw [show min x y = y by omega] at K
    rw [if_pos (h2.mpr q)]
    exact K
  · rw [show min x y = x by omega] at K
    rw [if_neg (fun z => q (h2.mp z))]
    exact K
theorem r_lmax {idx : Nat} {x y : Int} (hd : decode μ.cc pc = .ok (.invokestatic idx, 3)) (hw : Cond.methodLink μ.y.cls idx Lib.MathLoose.max_long.x ∈ m_tbl ∧ Cond.static Lib.MathLoose.max_long.x ∈ m_tbl ∧ Cond.initialized "java/lang/Math" ∈ m_tbl ∧ Cond.code Lib.MathLoose.max_long.x Lib.MathLoose.max_long.code 4 (some .long) ∈ m_tbl) (hr : (Nat.ble 1 μ.fr && Nat.ble (m_wid st + 15) μ.lo) = true) (hm : cells ≤ μ.mc ∧ slots ≤ μ.ms) (h0 : (-9223372036854775808 ≤ x ∧ x ≤ 9223372036854775807) ∧ -9223372036854775808 ≤ y ∧ y ≤ 9223372036854775807)
    (k : m_Run G μ tp Qf cells slots (pc + 3) lv (ml (max x y) :: st) sh M) : m_Run G μ tp Qf cells slots pc lv (ml y :: ml x :: st) sh M := by
  intro p e s m args below meth c' H locs b A ls C hP hD hS hA ht hl
  simp only [Bool.and_eq_true] at hr
  refine va_mmax_long C.1 C.2.1 (C.2.2.1.trans hl.1.symm) C.2.2.2.2.2.1 (C.2.2.2.2.2.2.1 _ hw.1) (C.2.2.2.2.2.2.1 _ hw.2.1) (C.2.2.2.2.2.2.1 _ hw.2.2.1) (C.2.2.2.2.2.2.1 _ hw.2.2.2) (Nat.le_of_ble_eq_true hr.1) (by rw [m_wid_sum]; exact Nat.le_of_ble_eq_true hr.2) hm.1 hm.2 hd ?_
  have e9 : (if Int64.ofInt y < Int64.ofInt x then Int64.ofInt x else Int64.ofInt y) = Int64.ofInt (max x y) := by
    have := z_ltL h0.2 h0.1
    by_cases q : y < x
    · rw [if_pos (this.mpr q), show max x y = x by omega]
    · rw [if_neg (fun z => q (this.mp z)), show max x y = y by omega]
  rw [e9]
  exact k p e s m args below meth c' H locs b A ls C hP hD hS hA ht hl
theorem r_lmin {idx : Nat} {x y : Int} (hd : decode μ.cc pc = .ok (.invokestatic idx, 3)) (hw : Cond.methodLink μ.y.cls idx Lib.MathLoose.min_long.x ∈ m_tbl ∧ Cond.static Lib.MathLoose.min_long.x ∈ m_tbl ∧ Cond.initialized "java/lang/Math" ∈ m_tbl ∧ Cond.code Lib.MathLoose.min_long.x Lib.MathLoose.min_long.code 4 (some .long) ∈ m_tbl) (hr : (Nat.ble 1 μ.fr && Nat.ble (m_wid st + 15) μ.lo) = true) (hm : cells ≤ μ.mc ∧ slots ≤ μ.ms) (h0 : (-9223372036854775808 ≤ x ∧ x ≤ 9223372036854775807) ∧ -9223372036854775808 ≤ y ∧ y ≤ 9223372036854775807)
    (k : m_Run G μ tp Qf cells slots (pc + 3) lv (ml (min x y) :: st) sh M) : m_Run G μ tp Qf cells slots pc lv (ml y :: ml x :: st) sh M := by
  intro p e s m args below meth c' H locs b A ls C hP hD hS hA ht hl
  simp only [Bool.and_eq_true] at hr
  refine va_mmin_long C.1 C.2.1 (C.2.2.1.trans hl.1.symm) C.2.2.2.2.2.1 (C.2.2.2.2.2.2.1 _ hw.1) (C.2.2.2.2.2.2.1 _ hw.2.1) (C.2.2.2.2.2.2.1 _ hw.2.2.1) (C.2.2.2.2.2.2.1 _ hw.2.2.2) (Nat.le_of_ble_eq_true hr.1) (by rw [m_wid_sum]; exact Nat.le_of_ble_eq_true hr.2) hm.1 hm.2 hd ?_
  have K := k p e s m args below meth c' H locs b A ls C hP hD hS hA ht hl
  have h2 := z_ltL h0.2 h0.1
  by_cases q : y < x
  · rw [show min x y = y by omega] at K
    rw [if_pos (h2.mpr q)]
    exact K
  · rw [show min x y = x by omega] at K
    rw [if_neg (fun z => q (h2.mp z))]
    exact K
end

/-! THE SMALL MACHINE'S RULES: fields, arrays, new cells, returns, calls. -/
theorem m_all_mem {l : List Cond} (h : l.all goodWord = true) (h2 : ∀ w ∈ l, w ∈ lw_tbl) : ∀ w ∈ l, w ∈ m_tbl := fun w hw => List.mem_filter.mpr ⟨h2 w hw, List.all_eq_true.mp h w hw⟩
theorem m_mem {w : Cond} (h : w ∈ lw_tbl) (h2 : goodWord w = true) : w ∈ m_tbl := List.mem_filter.mpr ⟨h, h2⟩
theorem m_good : ∀ w ∈ m_tbl, w ∈ m_tbl ∧ ((w.onTables && w.keeps) = true ∨ ∃ ty, w = .arrayClass ty) := fun w h => ⟨h, good_of_word (List.mem_filter.mp h).2⟩
theorem m_gw0 : (wsX00).all goodWord = true := by decide +kernel
theorem m_gw1 : (wsX10).all goodWord = true := by decide +kernel
theorem m_gw2 : (wsX20).all goodWord = true := by decide +kernel
theorem m_gw3 : (wsX30).all goodWord = true := by decide +kernel
theorem m_gw4 : (wsX40).all goodWord = true := by decide +kernel
theorem m_gw5 : (wsX50).all goodWord = true := by decide +kernel
theorem m_gw6 : (wsX60).all goodWord = true := by decide +kernel
theorem m_gw7 : (wsX70).all goodWord = true := by decide +kernel
theorem m_gw8 : (wsX80).all goodWord = true := by decide +kernel
theorem m_cls {c : Nat} {q : vw_C} (h : vwCl[c]? = some q) : (∀ w ∈ u_ws q.1 q.2.1 q.2.2, w ∈ m_tbl) ∧ (∀ a, a < q.2.2 → ∀ b, b < q.2.2 → a ≠ b → (q.2.1 a).2.1 ≠ (q.2.1 b).2.1) ∧ (∀ k, k < q.2.2 → parseFieldDescriptor (q.2.1 k).2.2.1 = some (m_fty c k)) ∧ q.2.2 = m_nf c := by
  match c, h with
  | 0, h => cases h; exact ⟨m_all_mem m_gw0 inX0, nmX0, tyX0_ok, rfl⟩
  | 1, h => cases h; exact ⟨m_all_mem m_gw1 inX1, nmX1, tyX1_ok, rfl⟩
  | 2, h => cases h; exact ⟨m_all_mem m_gw2 inX2, nmX2, tyX2_ok, rfl⟩
  | 3, h => cases h; exact ⟨m_all_mem m_gw3 inX3, nmX3, tyX3_ok, rfl⟩
  | 4, h => cases h; exact ⟨m_all_mem m_gw4 inX4, nmX4, tyX4_ok, rfl⟩
  | 5, h => cases h; exact ⟨m_all_mem m_gw5 inX5, nmX5, tyX5_ok, rfl⟩
  | 6, h => cases h; exact ⟨m_all_mem m_gw6 inX6, nmX6, tyX6_ok, rfl⟩
  | 7, h => cases h; exact ⟨m_all_mem m_gw7 inX7, nmX7, tyX7_ok, rfl⟩
  | c + 8, h => simp [vwCl] at h
/-- the field k of class c, called by an entry of a class's pool -/
def m_FL (own : String) (idx c k : Nat) (j : Int) : Prop := ((k : Nat) : Int) = j ∧ ∃ q : vw_C, vwCl[c]? = some q ∧ k < q.2.2 ∧ Cond.fieldLink own idx (q.2.1 k).1 (q.2.1 k).2.1 (q.2.1 k).2.2.1 ∈ m_tbl
def m_isI : FieldType → Bool
  | .int => true | .boolean => true | .byte => true | .short => true | .char => true | _ => false
def m_isR : FieldType → Bool
  | .object _ => true | .array _ => true | _ => false
theorem m_fv_I {b : Nat} {M : MM} {a k : Nat} {ty : FieldType} (h : m_isI ty = true) : m_fv b M a ty k = .int (Int32.ofInt (M.1 a k)) := by cases ty <;> first | rfl | cases h
theorem m_fv_R {b : Nat} {M : MM} {a k : Nat} {ty : FieldType} (h : m_isR ty = true) : m_fv b M a ty k = va_rf ((M.2.2 a k).map (b + ·)) := by cases ty <;> first | rfl | cases h
theorem m_fs_at {b : Nat} {M : MM} {a c k : Nat} (h : k < m_nf c) : (m_fs b M a c)[k]? = some (m_fv b M a (m_fty c k) k) := by simp [m_fs, h]
theorem m_fs_set {b : Nat} {M M' : MM} {a c k : Nat} {v : Value} (h : k < m_nf c) (hv : m_fv b M' a (m_fty c k) k = v) (ho : ∀ j ty, j ≠ k → m_fv b M' a ty j = m_fv b M a ty j) : (m_fs b M a c).set k v = m_fs b M' a c := by
  apply List.ext_getElem?
  intro j
  by_cases hj : j = k
  · subst hj
    rw [List.getElem?_set_self (by simp [m_fs, h]), m_fs_at h, hv]
  · rw [List.getElem?_set_ne (Ne.symm hj)]
    by_cases hl : j < m_nf c
    · rw [m_fs_at hl, m_fs_at hl, ho j _ hj]
    · simp [m_fs, hl]
theorem m_fv_up {b : Nat} {M : MM} {a k : Nat} {ty : FieldType} {x : Int} (j : Nat) (h : j ≠ k) : m_fv b (m_sI M a k x) a ty j = m_fv b M a ty j := by
  have h2 : (j : Int) ≠ k := by omega
  cases ty <;> simp only [m_fv, m_up_nj h2]
theorem m_fv_upL {b : Nat} {M : MM} {a k : Nat} {ty : FieldType} {x : Int} (j : Nat) (h : j ≠ k) : m_fv b (m_sL M a k x) a ty j = m_fv b M a ty j := by
  have h2 : (j : Int) ≠ k := by omega
  cases ty <;> simp only [m_fv, m_up_nj h2]
theorem m_fv_upR {b : Nat} {M : MM} {a k : Nat} {ty : FieldType} {x : Option Nat} (j : Nat) (h : j ≠ k) : m_fv b (m_sR M a k x) a ty j = m_fv b M a ty j := by
  have h2 : (j : Int) ≠ k := by omega
  cases ty <;> simp only [m_fv, m_up_nj h2]
section
variable {G : GT} {μ : MT} {tp : Bool} {Qf : Option MV → MS → MM → Prop} {cells slots pc : Nat} {lv : List (Nat × MV)} {st : List MV} {sh : MS} {M : MM}
theorem r_getI {idx c k a : Nat} {j : Int} (hd : decode μ.cc pc = .ok (.getfield idx, 3)) (hf : m_FL μ.y.cls idx c k j) (hc : sh[a]? = some (.inl c)) (hty : m_isI (m_fty c k) = true)
    (kk : m_Run G μ tp Qf cells slots (pc + 3) lv (mi (M.1 a j) :: st) sh M) : m_Run G μ tp Qf cells slots pc lv (mr a :: st) sh M := by
  intro p e s m args below meth c' H locs b A ls C hP hD hS hA ht hl
  obtain ⟨hj, q, hq, hk, hw⟩ := hf
  have F := m_cls hq
  have K := kk p e s m args below meth c' H locs b A ls C hP hD hS hA ht hl
  refine va_get (D := G.2.1) (cl := vwCl) C.1 C.2.1 (C := q.1) (T := q.2.1) (N := q.2.2) C.2.2.2.2.2.2.1 F.1 C.2.2.2.2.2.1 C.2.2.2.2.2.2.2.2.1 hP a (m_ws_at hc) hq k hk (C.2.2.2.2.2.2.1 _ hw) (fun _ h => h) (m_fs_at (by rw [← F.2.2.2]; exact hk)) hd ?_
  rw [m_fv_I hty, hj]
  exact K
theorem r_getL {idx c k a : Nat} {j : Int} (hd : decode μ.cc pc = .ok (.getfield idx, 3)) (hf : m_FL μ.y.cls idx c k j) (hc : sh[a]? = some (.inl c)) (hty : m_fty c k = .long)
    (kk : m_Run G μ tp Qf cells slots (pc + 3) lv (ml (M.2.1 a j) :: st) sh M) : m_Run G μ tp Qf cells slots pc lv (mr a :: st) sh M := by
  intro p e s m args below meth c' H locs b A ls C hP hD hS hA ht hl
  obtain ⟨hj, q, hq, hk, hw⟩ := hf
  have F := m_cls hq
  have K := kk p e s m args below meth c' H locs b A ls C hP hD hS hA ht hl
  refine va_get (D := G.2.1) (cl := vwCl) C.1 C.2.1 (C := q.1) (T := q.2.1) (N := q.2.2) C.2.2.2.2.2.2.1 F.1 C.2.2.2.2.2.1 C.2.2.2.2.2.2.2.2.1 hP a (m_ws_at hc) hq k hk (C.2.2.2.2.2.2.1 _ hw) (fun _ h => h) (m_fs_at (by rw [← F.2.2.2]; exact hk)) hd ?_
  rw [hty, show m_fv b M a .long k = .long (Int64.ofInt (M.2.1 a k)) from rfl, hj]
  exact K
theorem r_getR {idx c k a r : Nat} {j : Int} (hd : decode μ.cc pc = .ok (.getfield idx, 3)) (hf : m_FL μ.y.cls idx c k j) (hc : sh[a]? = some (.inl c)) (hty : m_isR (m_fty c k) = true) (hv : M.2.2 a j = some r)
    (kk : m_Run G μ tp Qf cells slots (pc + 3) lv (mr r :: st) sh M) : m_Run G μ tp Qf cells slots pc lv (mr a :: st) sh M := by
  intro p e s m args below meth c' H locs b A ls C hP hD hS hA ht hl
  obtain ⟨hj, q, hq, hk, hw⟩ := hf
  have F := m_cls hq
  have K := kk p e s m args below meth c' H locs b A ls C hP hD hS hA ht hl
  refine va_get (D := G.2.1) (cl := vwCl) C.1 C.2.1 (C := q.1) (T := q.2.1) (N := q.2.2) C.2.2.2.2.2.2.1 F.1 C.2.2.2.2.2.1 C.2.2.2.2.2.2.2.2.1 hP a (m_ws_at hc) hq k hk (C.2.2.2.2.2.2.1 _ hw) (fun _ h => h) (m_fs_at (by rw [← F.2.2.2]; exact hk)) hd ?_
  rw [m_fv_R hty, hj, hv]
  exact K
theorem m_en_I {G : GT} {b a c : Nat} {M : MM} {i v : Int} (h : c ≠ a) (d : Nat ⊕ (Nat × Nat)) : m_en G b (m_sI M a i v) c d = m_en G b M c d := m_en_keep (M := M) (M' := m_sI M a i v) (c := c) (fun _ => m_up_ne h _) (fun _ => rfl) (fun _ => rfl) d
theorem m_en_L {G : GT} {b a c : Nat} {M : MM} {i v : Int} (h : c ≠ a) (d : Nat ⊕ (Nat × Nat)) : m_en G b (m_sL M a i v) c d = m_en G b M c d := m_en_keep (M := M) (M' := m_sL M a i v) (c := c) (fun _ => rfl) (fun _ => m_up_ne h _) (fun _ => rfl) d
theorem m_en_R {G : GT} {b a c : Nat} {M : MM} {i : Int} {v : Option Nat} (h : c ≠ a) (d : Nat ⊕ (Nat × Nat)) : m_en G b (m_sR M a i v) c d = m_en G b M c d := m_en_keep (M := M) (M' := m_sR M a i v) (c := c) (fun _ => rfl) (fun _ => rfl) (fun _ => m_up_ne h _) d
/-- the world behind a cell's change -/
theorem m_P_set {G : GT} {b a : Nat} {M M' : MM} {sh : MS} {A : Nat → Prop} {d : Nat ⊕ (Nat × Nat)} {H H1 : Heap} (hP : va_P G.2.1 vwCl (m_ws G b sh M) H) (hD : va_D A (m_ws G b sh M)) (hc : sh[a]? = some d)
    (he : va_at G.2.1 vwCl (b + a, m_en G b M' a d) H1) (ho : ∀ c d', c ≠ a → sh[c]? = some d' → m_en G b M' c d' = m_en G b M c d') (oq : ∀ q : Nat, q ≠ b + a → H1[q]? = H[q]?) : va_P G.2.1 vwCl (m_ws G b sh M') H1 ∧ va_D A (m_ws G b sh M') := by
  have h1 := hP.set hD (m_ws_at hc) he oq
  have h2 := hD.set (e := m_en G b M' a d) (m_ws_at hc)
  rw [m_ws_set hc ho] at h1 h2
  exact ⟨h1, h2⟩
theorem r_putG {idx c k a : Nat} {w : MV} {M' : MM} (hd : decode μ.cc pc = .ok (.putfield idx, 3)) (hf : ∃ q : vw_C, vwCl[c]? = some q ∧ k < q.2.2 ∧ Cond.fieldLink μ.y.cls idx (q.2.1 k).1 (q.2.1 k).2.1 (q.2.1 k).2.2.1 ∈ m_tbl ∧ ((q.2.1 k).2.2.2 = false ∨ ((q.2.1 k).2.2.2 = true ∧ μ.y.name = "<init>" ∧ (q.2.1 k).1 = μ.y.cls))) (hc : sh[a]? = some (.inl c))
    (hn : ∀ b, narrow (m_fty c k) (m_tv b w) = m_tv b w ∧ fits (m_fty c k) (m_tv b w) = true) (hv : ∀ b, m_fv b M' a (m_fty c k) k = m_tv b w) (hM : ∀ b j ty, j ≠ k → m_fv b M' a ty j = m_fv b M a ty j) (ho : ∀ b c d', c ≠ a → m_en G b M' c d' = m_en G b M c d')
    (kk : m_Run G μ tp Qf cells slots (pc + 3) lv st sh M') : m_Run G μ tp Qf cells slots pc lv (w :: mr a :: st) sh M := by
  intro p e s m args below meth c' H locs b A ls C hP hD hS hA ht hl
  obtain ⟨q, hq, hk, hlk, hfin⟩ := hf
  have F := m_cls hq
  have hk2 : k < m_nf c := by rw [← F.2.2.2]; exact hk
  obtain ⟨hx, hb, hml, hr, hlocks, hown, hts, hin, hKK⟩ := id C
  obtain ⟨hSl, hfc, kC, hkC, hkind⟩ := hKK.1.1 c q hq
  obtain ⟨cf, kf, fi, f, hi, hsl⟩ := hSl k hk
  obtain ⟨r, h1, cell, q1, q2, q3, q4⟩ := hP a _ (m_ws_at hc)
  have hr2 : r = q := Option.some.inj (h1.symm.trans hq)
  subst hr2
  have hst := (u_facts hfc hkC (u_lays hts F.1 hk) hi).1
  have hap := va_apart (own := μ.y.cls) hts F.1 (m_fty c) F.2.2.1 F.2.1 hKK.1 hq
  have hlay := hts _ (F.1 _ (u_in_lay hk))
  have done : ∀ H' : Heap, H'[b + a]? = some (cell.setSlot f.slot (m_tv b w)) → H'.size = H.size → (∀ q, q ≠ b + a → H'[q]? = H[q]?) → W p G.1 e μ.rm s m args below meth c' H' (locs ++ [⟨b + a, f.slot⟩]) cells slots (MQ below (m_Qc G b tp Qf A) args s μ.mc μ.ms A) (F0 m (pc + 3) ls (st.map (m_tv b))) := by
    intro H' e1 e2 e3
    rw [hsl] at e1
    have hA' : A (b + a) := hD.2 a _ (m_ws_at hc)
    obtain ⟨hP1, hD1⟩ := m_P_set (M' := M') hP hD hc (H1 := H') (by
      refine ⟨_, hq, ?_⟩
      refine t_OB.to (V := updV (vp_V (m_fs b M a c)) k (m_tv b w)) ⟨_, e1, q2, q3, t_set q4 hap hk (m_tv b w)⟩ (fun j _ => ?_)
      rw [vp_updV_set (by simp [m_fs]; exact hk2), m_fs_set hk2 (hv b) (hM b)]) (fun c d' h _ => ho b c d' h) e3
    exact kk p e s m args below meth c' H' _ b A ls C hP1 hD1 (hS.put e2 e3 hA') hA (fun h => by rw [e2]; exact ht h) hl
  rcases hfin with hfin | ⟨hfin, hnm, hdecl⟩
  · unfold u_lay at hlay
    rw [if_neg (by rw [hfin]; decide)] at hlay
    have h6 := u_store hfc hkC hkind hlay hi (F.2.2.1 k hk) (hn b).1 (hn b).2
    exact W.putK hx hb (f := f) ⟨hown, hts _ hlk, ⟨_, _, _, hi⟩, hst⟩ (by rw [q2]; exact h6) q1 q3 (by rw [hsl]; exact k2_hasslot (q4 k hk)) rfl rfl hd done
  · unfold u_lay at hlay
    rw [if_pos hfin] at hlay
    have hcf : m.cls = cf := by
      obtain ⟨_, _, c2, _, _, _, -, -, hf2, -, -, -, hown2, -⟩ := Cond.laysFinal_spec hlay
      have e1 : c2 = cf := by have := hi.symm.trans hf2; simp at this; exact this.1.symm
      rw [hdecl] at hown2
      rw [← e1]; exact Option.some.inj (hown.symm.trans hown2)
    have h6 := u_fits hfc hkC hkind (Or.inr hlay) hi (F.2.2.1 k hk) (hn b).1 (hn b).2
    exact W.putFinK hx hb hown (hts _ hlk) hi hst hcf (hin.trans hnm) (by rw [q2]; exact h6) q1 q3 (by rw [hsl]; exact k2_hasslot (q4 k hk)) rfl rfl hd done
/-- whether a field may be written here -/
def m_FW (μ : MT) (c k : Nat) : Bool := match vwCl[c]? with
  | some q => (q.2.1 k).2.2.2 == false || ((q.2.1 k).2.2.2 == true && (μ.y.name == "<init>" && (q.2.1 k).1 == μ.y.cls))
  | none => false
theorem m_FW.use {idx c k : Nat} {j : Int} (hf : m_FL μ.y.cls idx c k j) (h : m_FW μ c k = true) : ∃ q : vw_C, vwCl[c]? = some q ∧ k < q.2.2 ∧ Cond.fieldLink μ.y.cls idx (q.2.1 k).1 (q.2.1 k).2.1 (q.2.1 k).2.2.1 ∈ m_tbl ∧ ((q.2.1 k).2.2.2 = false ∨ ((q.2.1 k).2.2.2 = true ∧ μ.y.name = "<init>" ∧ (q.2.1 k).1 = μ.y.cls)) := by
  obtain ⟨-, q, hq, hk, hw⟩ := hf
  refine ⟨q, hq, hk, hw, ?_⟩
  unfold m_FW at h
  rw [hq] at h
  simpa using h
theorem r_putI {idx c k a : Nat} {j x : Int} (hd : decode μ.cc pc = .ok (.putfield idx, 3)) (hf : m_FL μ.y.cls idx c k j) (hfw : m_FW μ c k = true) (hc : sh[a]? = some (.inl c)) (hty : m_fty c k = .int)
    (kk : m_Run G μ tp Qf cells slots (pc + 3) lv st sh (m_sI M a j x)) : m_Run G μ tp Qf cells slots pc lv (mi x :: mr a :: st) sh M := by
  obtain ⟨rfl, -⟩ := id hf
  exact r_putG (M' := m_sI M a k x) hd (m_FW.use hf hfw) hc (fun b => by rw [hty]; exact ⟨rfl, rfl⟩) (fun b => by rw [m_fv_I (by rw [hty]; rfl)]; simp only [m_up_eq]; rfl) (fun b j ty h => m_fv_up j h) (fun b c d' h => m_en_I h d') kk
theorem r_putZ {idx c k a : Nat} {j x : Int} (hd : decode μ.cc pc = .ok (.putfield idx, 3)) (hf : m_FL μ.y.cls idx c k j) (hfw : m_FW μ c k = true) (hc : sh[a]? = some (.inl c)) (hty : m_fty c k = .boolean) (hx : x = 0 ∨ x = 1)
    (kk : m_Run G μ tp Qf cells slots (pc + 3) lv st sh (m_sI M a j x)) : m_Run G μ tp Qf cells slots pc lv (mi x :: mr a :: st) sh M := by
  obtain ⟨rfl, -⟩ := id hf
  exact r_putG (M' := m_sI M a k x) hd (m_FW.use hf hfw) hc (fun b => by rw [hty]; rcases hx with rfl | rfl <;> exact ⟨rfl, rfl⟩) (fun b => by rw [m_fv_I (by rw [hty]; rfl)]; simp only [m_up_eq]; rfl) (fun b j ty h => m_fv_up j h) (fun b c d' h => m_en_I h d') kk
theorem r_putL {idx c k a : Nat} {j x : Int} (hd : decode μ.cc pc = .ok (.putfield idx, 3)) (hf : m_FL μ.y.cls idx c k j) (hfw : m_FW μ c k = true) (hc : sh[a]? = some (.inl c)) (hty : m_fty c k = .long)
    (kk : m_Run G μ tp Qf cells slots (pc + 3) lv st sh (m_sL M a j x)) : m_Run G μ tp Qf cells slots pc lv (ml x :: mr a :: st) sh M := by
  obtain ⟨rfl, -⟩ := id hf
  exact r_putG (M' := m_sL M a k x) hd (m_FW.use hf hfw) hc (fun b => by rw [hty]; exact ⟨rfl, rfl⟩) (fun b => by rw [hty]; show Value.long (Int64.ofInt (m_up M.2.1 a k x a k)) = _; rw [m_up_eq]; rfl) (fun b j ty h => m_fv_upL j h) (fun b c d' h => m_en_L h d') kk
theorem r_putR {idx c k a r : Nat} {j : Int} (hd : decode μ.cc pc = .ok (.putfield idx, 3)) (hf : m_FL μ.y.cls idx c k j) (hfw : m_FW μ c k = true) (hc : sh[a]? = some (.inl c)) (hty : m_isR (m_fty c k) = true)
    (kk : m_Run G μ tp Qf cells slots (pc + 3) lv st sh (m_sR M a j (some r))) : m_Run G μ tp Qf cells slots pc lv (mr r :: mr a :: st) sh M := by
  obtain ⟨rfl, -⟩ := id hf
  exact r_putG (M' := m_sR M a k (some r)) hd (m_FW.use hf hfw) hc (fun b => by generalize m_fty c k = ty at hty; cases ty <;> first | exact ⟨rfl, rfl⟩ | cases hty) (fun b => by rw [m_fv_R hty]; simp only [m_up_eq]; rfl) (fun b j ty h => m_fv_upR j h) (fun b c d' h => m_en_R h d') kk
/-! arrays -/
theorem r_iald {a n : Nat} {i : Int} (hd : decode μ.cc pc = .ok (.iaload, 1)) (hc : sh[a]? = some (.inr (0, n))) (hi : 0 ≤ i ∧ i < n ∧ i ≤ 2147483647)
    (kk : m_Run G μ tp Qf cells slots (pc + 1) lv (mi (M.1 a i) :: st) sh M) : m_Run G μ tp Qf cells slots pc lv (mi i :: mr a :: st) sh M :=
  r_liftC (fun C hP _ k => va_iald C.1 C.2.1 C.2.2.2.2.2.2.2.2.1 hP a 0 (m_ws_at hc) rfl (z_in hi).1 hd (by show W _ _ _ _ _ _ _ _ _ _ _ _ _ _ _ (F0 _ _ _ (.int (Int32.ofInt (M.1 a _)) :: _)); rw [(z_in hi).2]; exact k)) kk
theorem r_lald {a n : Nat} {i : Int} (hd : decode μ.cc pc = .ok (.laload, 1)) (hc : sh[a]? = some (.inr (1, n))) (hi : 0 ≤ i ∧ i < n ∧ i ≤ 2147483647)
    (kk : m_Run G μ tp Qf cells slots (pc + 1) lv (ml (M.2.1 a i) :: st) sh M) : m_Run G μ tp Qf cells slots pc lv (mi i :: mr a :: st) sh M :=
  r_liftC (fun C hP _ k => va_lald C.1 C.2.1 C.2.2.2.2.2.2.2.2.1 hP a 1 (m_ws_at hc) rfl (z_in hi).1 hd (by show W _ _ _ _ _ _ _ _ _ _ _ _ _ _ _ (F0 _ _ _ (.long (Int64.ofInt (M.2.1 a _)) :: _)); rw [(z_in hi).2]; exact k)) kk
theorem r_aald {a n r : Nat} {i : Int} (hd : decode μ.cc pc = .ok (.aaload, 1)) (hc : sh[a]? = some (.inr (3, n))) (hi : 0 ≤ i ∧ i < n ∧ i ≤ 2147483647) (hv : M.2.2 a i = some r)
    (kk : m_Run G μ tp Qf cells slots (pc + 1) lv (mr r :: st) sh M) : m_Run G μ tp Qf cells slots pc lv (mi i :: mr a :: st) sh M :=
  r_liftC (fun {p l e R s m args below meth c H locs b ls Q} C hP _ k => by
    have hlt : (Int32.ofInt i).toNatClampNeg < n := by have := (z_in hi).2; omega
    exact W.aald (v := m_tv b (mr r)) (ty := .array .int) C.1 C.2.1 (hP a _ (m_ws_at hc)) ((C.2.2.2.2.2.2.2.2.1.2 3 _ rfl).1 n (fun j => va_rf ((M.2.2 a j).map (b + ·)))) rfl (fun q => by cases q) (by show ¬ (_ < 0 ∨ (arrV _ _ _).slots.size ≤ _); rw [arrV_size]; exact (z_in hi).1)
      (by show (arrV _ _ _).slots[_]? = _; rw [arrV_read _ _ hlt]; show some (va_rf ((M.2.2 a _).map (b + ·))) = _; rw [(z_in hi).2, hv]; rfl) rfl rfl hd k) kk
theorem r_alen {a kd n : Nat} {j : Int} (hd : decode μ.cc pc = .ok (.arraylength, 1)) (hc : sh[a]? = some (.inr (kd, n))) (hn : ((n : Nat) : Int) = j)
    (kk : m_Run G μ tp Qf cells slots (pc + 1) lv (mi j :: st) sh M) : m_Run G μ tp Qf cells slots pc lv (mr a :: st) sh M :=
  r_liftC (fun {p l e R s m args below meth c H locs b ls Q} C hP _ k => by
    have e : Int32.ofNat n = Int32.ofInt j := by rw [← hn]; exact (Int32.ofInt_eq_ofNat).symm
    have h0 := hP a _ (m_ws_at hc)
    match kd, hc, h0 with
    | 0, hc, h0 => exact va_alen (x := (n, .inl (fun k => Int32.ofInt (M.1 a k)))) C.1 C.2.1 C.2.2.2.2.2.2.2.2.1 hP a 0 (m_ws_at hc) rfl e hd k
    | 1, hc, h0 => exact va_alen (x := (n, .inr (.inl (fun k => Int64.ofInt (M.2.1 a k))))) C.1 C.2.1 C.2.2.2.2.2.2.2.2.1 hP a 1 (m_ws_at hc) rfl e hd k
    | 2, hc, h0 => exact va_alen (x := (n, .inl (fun k => Int32.ofInt (M.1 a k)))) C.1 C.2.1 C.2.2.2.2.2.2.2.2.1 hP a 2 (m_ws_at hc) rfl e hd k
    | _ + 3, hc, h0 => exact va_alen (x := (n, .inr (.inr (.inr (.inr (fun k => (M.2.2 a k).map (b + ·))))))) C.1 C.2.1 C.2.2.2.2.2.2.2.2.1 hP a 3 (m_ws_at hc) rfl e hd k) kk
theorem m_updI {f : Nat → Int → Int} {a : Nat} {i x : Int} {j : Nat} (hj : (j : Int) = i) : (fun k : Nat => Int32.ofInt (m_up f a i x a k)) = upd (fun k => Int32.ofInt (f a k)) j (Int32.ofInt x) := by
  funext k
  by_cases hk : k = j
  · subst hk
    simp [upd, ← hj, m_up_eq]
  · have : (k : Int) ≠ i := by omega
    simp only [upd, hk, if_false, m_up_nj this]
theorem m_updL {f : Nat → Int → Int} {a : Nat} {i x : Int} {j : Nat} (hj : (j : Int) = i) : (fun k : Nat => Int64.ofInt (m_up f a i x a k)) = vp_updL (fun k => Int64.ofInt (f a k)) j (Int64.ofInt x) := by
  funext k
  by_cases hk : k = j
  · subst hk
    simp [vp_updL, ← hj, m_up_eq]
  · have : (k : Int) ≠ i := by omega
    simp only [vp_updL, hk, if_false, m_up_nj this]
theorem m_updV_I (f : Nat → Int32) (j : Nat) (x : Int32) : updV (fun k => Value.int (f k)) j (.int x) = fun k => .int (upd f j x k) := by
  funext k
  by_cases hk : k = j
  · simp [updV, upd, hk]
  · simp [updV, upd, hk]
theorem m_updV_L (f : Nat → Int64) (j : Nat) (x : Int64) : updV (fun k => Value.long (f k)) j (.long x) = fun k => .long (vp_updL f j x k) := by
  funext k
  by_cases hk : k = j
  · simp [updV, vp_updL, hk]
  · simp [updV, vp_updL, hk]
theorem r_iast {a n : Nat} {i x : Int} (hd : decode μ.cc pc = .ok (.iastore, 1)) (hc : sh[a]? = some (.inr (0, n))) (hi : 0 ≤ i ∧ i < n ∧ i ≤ 2147483647)
    (kk : m_Run G μ tp Qf cells slots (pc + 1) lv st sh (m_sI M a i x)) : m_Run G μ tp Qf cells slots pc lv (mi x :: mi i :: mr a :: st) sh M := by
  intro p e s m args below meth c' H locs b A ls C hP hD hS hA ht hl
  refine W.iast C.1 C.2.1 (hP a _ (m_ws_at hc)) ((C.2.2.2.2.2.2.2.2.1.2 0 _ rfl).1 n _) (fun q => by cases q) (by show ¬ (_ < 0 ∨ (arrV _ _ _).slots.size ≤ _); rw [arrV_size]; exact (z_in hi).1) rfl rfl hd fun H1 e1 z oq => ?_
  obtain ⟨hP1, hD1⟩ := m_P_set (M' := m_sI M a i x) hP hD hc (H1 := H1) (by
    show H1[b + a]? = some (vp_cell (G.2.2 0) (n, .inl _))
    rw [e1, vp_cell_i, vp_cell_i, arrV_store]
    rw [m_updV_I]
    exact congrArg (fun g : Nat → Int32 => some (arrV _ n (fun j => .int (g j)))) (m_updI (f := M.1) (a := a) (x := x) (z_in hi).2).symm) (fun c d' h _ => m_en_I h d') oq
  exact kk p e s m args below meth c' H1 _ b A ls C hP1 hD1 (hS.put z oq (hD.2 a _ (m_ws_at hc))) hA (fun h => by rw [z]; exact ht h) hl
theorem r_last {a n : Nat} {i x : Int} (hd : decode μ.cc pc = .ok (.lastore, 1)) (hc : sh[a]? = some (.inr (1, n))) (hi : 0 ≤ i ∧ i < n ∧ i ≤ 2147483647)
    (kk : m_Run G μ tp Qf cells slots (pc + 1) lv st sh (m_sL M a i x)) : m_Run G μ tp Qf cells slots pc lv (ml x :: mi i :: mr a :: st) sh M := by
  intro p e s m args below meth c' H locs b A ls C hP hD hS hA ht hl
  refine W.last C.1 C.2.1 (hP a _ (m_ws_at hc)) ((C.2.2.2.2.2.2.2.2.1.2 1 _ rfl).1 n _) (fun q => by cases q) (by show ¬ (_ < 0 ∨ (arrV _ _ _).slots.size ≤ _); rw [arrV_size]; exact (z_in hi).1) rfl rfl hd fun H1 e1 z oq => ?_
  obtain ⟨hP1, hD1⟩ := m_P_set (M' := m_sL M a i x) hP hD hc (H1 := H1) (by
    show H1[b + a]? = some (vp_cell (G.2.2 1) (n, .inr (.inl _)))
    rw [e1, vp_cell_l, vp_cell_l, arrV_store]
    rw [m_updV_L]
    exact congrArg (fun g : Nat → Int64 => some (arrV _ n (fun j => .long (g j)))) (m_updL (f := M.2.1) (a := a) (x := x) (z_in hi).2).symm) (fun c d' h _ => m_en_L h d') oq
  exact kk p e s m args below meth c' H1 _ b A ls C hP1 hD1 (hS.put z oq (hD.2 a _ (m_ws_at hc))) hA (fun h => by rw [z]; exact ht h) hl
/-! returns -/
theorem m_end {p : Program} {s : State} {m : MethodId} {args : Array Value} {meth : Method} {c : Code} {H : Heap} {locs : List Loc} {b : Nat} {A : Nat → Prop} {v : Option MV} (hP : va_P G.2.1 vwCl (m_ws G b sh M) H) (hD : va_D A (m_ws G b sh M)) (hS : va_S A s.heap H locs) (ht : tp = true → H.size = b + sh.length) (q : Qf v sh M) :
    ∀ t : State, t.heap = H → s.WarmedH t.vm → m_Qc G b tp Qf A args s (.returned (v.map (m_tv b))) t :=
  fun t h _ => ⟨v, sh, M, rfl, q, by rw [h]; exact hP, hD, fun hh => by rw [h]; exact ht hh, hS.F h⟩
theorem r_iret {x : Int} (hd : decode μ.cc pc = .ok (.ireturn, 1)) (hr : μ.ret = some .int) (hm : cells ≤ μ.mc ∧ slots ≤ μ.ms) (q : Qf (some (mi x)) sh M) : m_Run G μ tp Qf cells slots pc lv [mi x] sh M := by
  intro p e s m args below meth c' H locs b A ls C hP hD hS hA ht hl
  exact W.widen hm.1 hm.2 (W.iret C.1 C.2.1 (by rw [C.2.2.2.1]; exact hr) (m_end (p := p) (m := m) (meth := meth) (c := c') hP hD hS ht q) hS.2.2 hd (hlocks := C.2.2.2.2.1))
theorem r_zret {x : Int} (hd : decode μ.cc pc = .ok (.ireturn, 1)) (hr : μ.ret = some .boolean) (hx : x = 0 ∨ x = 1) (hm : cells ≤ μ.mc ∧ slots ≤ μ.ms) (q : Qf (some (mi x)) sh M) : m_Run G μ tp Qf cells slots pc lv [mi x] sh M := by
  intro p e s m args below meth c' H locs b A ls C hP hD hS hA ht hl
  exact W.widen hm.1 hm.2 (W.zret C.1 C.2.1 (by rw [C.2.2.2.1]; exact hr) (by rcases hx with rfl | rfl <;> rfl) (m_end (p := p) (m := m) (meth := meth) (c := c') hP hD hS ht q) hS.2.2 hd (hlocks := C.2.2.2.2.1))
theorem r_lret {x : Int} (hd : decode μ.cc pc = .ok (.lreturn, 1)) (hr : μ.ret = some .long) (hm : cells ≤ μ.mc ∧ slots ≤ μ.ms) (q : Qf (some (ml x)) sh M) : m_Run G μ tp Qf cells slots pc lv [ml x] sh M := by
  intro p e s m args below meth c' H locs b A ls C hP hD hS hA ht hl
  exact W.widen hm.1 hm.2 (W.lret C.1 C.2.1 (by rw [C.2.2.2.1]; exact hr) (m_end (p := p) (m := m) (meth := meth) (c := c') hP hD hS ht q) hS.2.2 hd (hlocks := C.2.2.2.2.1))
theorem r_vret (hd : decode μ.cc pc = .ok (.return_, 1)) (hr : μ.ret = none) (hm : cells ≤ μ.mc ∧ slots ≤ μ.ms) (q : Qf none sh M) : m_Run G μ tp Qf cells slots pc lv [] sh M := by
  intro p e s m args below meth c' H locs b A ls C hP hD hS hA ht hl
  exact W.widen hm.1 hm.2 (W.vret C.1 C.2.1 (by rw [C.2.2.2.1]; exact hr) (m_end (p := p) (m := m) (meth := meth) (c := c') hP hD hS ht q) hS.2.2 hd (hlocks := C.2.2.2.2.1))
end

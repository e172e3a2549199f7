/-! THE LAW: its run, its questions. (The first rows are the kit's skeleton's, given for pasting.) -/
def R_law : String := "CreakBoardsLaw"
def lw_P (b : Addr) (xs : List Int32) (args : Array Value) (s : State) : Prop := args = #[.ref b] ∧ s.IntsAt b xs ∧ xs.length ≤ 260 ∧ (Jvm.Cond.and given_1 narrow_1).before args s = true
def lw_Q (_ : Array Value) (s : State) (o : Outcome) (t : State) : Prop := o = .returned (some (.int 1)) ∧ Framed s o t [] 600000 7302250
def lw_Z (below : List Frame) (a : Array Value) (s : State) : State → Prop := fun t => ∃ o, t.status = .running ∧ Ended t below o ∧ lw_Q a s o t
/-- the law's own end, with 1 on the stack, nothing written that was there before, its room as the claim has it -/
theorem lw_ret {p : Program} {l : Launch} {e : Env} {s : State} {m : MethodId} {below : List Frame} {meth : Method} {c : Code} {b : Nat} (hx : p.tables.exec = Jvm.exec) (hb : c.code = code) (hr : meth.sig.returnType = ret) (hlocks : meth.locks = false) {pc : Nat} {H : Heap} {ls : Array Slot} (hdg : decode code pc = .ok (.ireturn, 1)) : W p l e room_1 s m #[Value.ref b] below meth c H [] 600000 7302250 (lw_Z below #[Value.ref b] s) (F0 m pc ls [.int 1]) := by
  intro T hT X
  obtain ⟨fs, hret, hrun, hended, hW, hframe⟩ := X.leave (v := some (.int 1)) (hlocks := hlocks) (fun h => by rw [hr] at h; cases h)
  have hmeth' : T.vm.method? m = some meth := X.method'
  refine ⟨T.setFrames fs, ?_, .returned (some (.int 1)), hrun, hended, rfl, ⟨_, rfl⟩, hW, hframe⟩
  jvm_step X.here [X.here.top, hx, hb, hdg, hmeth', hr, ret, narrow_b1]
  (try refine ⟨rfl, ?_⟩); (try refine ⟨rfl, ?_⟩)
  first | (intro acts; rw [hret _ acts rfl rfl rfl]) | rw [hret _ _ rfl rfl rfl]
  exact Steps.refl _
/-- what holds at the law's entry: the machine, the code, the tables' words (any of lw_tbl by 'hts w (by decide +kernel)'), the script of L ints xs at the cell b, what the Statement gives of the start (any of its parts by flat_of_before) -/
def lw_At (p : Program) (s : State) (m : MethodId) (meth : Method) (c : Code) (b L : Nat) (xs : Nat → Int32) : Prop :=
  p.tables.exec = Jvm.exec ∧ c.code = code ∧ meth.sig.returnType = ret ∧ c.maxLocals = 18 ∧ s.vm.findClass R_law = some m.cls ∧ (∀ w ∈ lw_tbl, w.before #[Value.ref b] s = true) ∧ va_X b L xs s s.heap ∧ b < s.heap.size ∧ meth.locks = false ∧ (Jvm.Cond.and given_1 narrow_1).before #[Value.ref b] s = true
/-- the law's own end, for any call's arguments -/
theorem lw_retg {p : Program} {l : Launch} {e : Env} {s : State} {m : MethodId} {args : Array Value} {below : List Frame} {meth : Method} {c : Code} (hx : p.tables.exec = Jvm.exec) (hb : c.code = code) (hr : meth.sig.returnType = ret) (hlocks : meth.locks = false) {pc : Nat} {H : Heap} {ls : Array Slot} (hdg : decode code pc = .ok (.ireturn, 1)) : W p l e room_1 s m args below meth c H [] 600000 7302250 (lw_Z below args s) (F0 m pc ls [.int 1]) := by
  intro T hT X
  obtain ⟨fs, hret, hrun, hended, hW, hframe⟩ := X.leave (v := some (.int 1)) (hlocks := hlocks) (fun h => by rw [hr] at h; cases h)
  have hmeth' : T.vm.method? m = some meth := X.method'
  refine ⟨T.setFrames fs, ?_, .returned (some (.int 1)), hrun, hended, rfl, ⟨_, rfl⟩, hW, hframe⟩
  jvm_step X.here [X.here.top, hx, hb, hdg, hmeth', hr, ret, narrow_b1]
  (try refine ⟨rfl, ?_⟩); (try refine ⟨rfl, ?_⟩)
  first | (intro acts; rw [hret _ acts rfl rfl rfl]) | rw [hret _ _ rfl rfl rfl]
  exact Steps.refl _
abbrev mtL_law : MT := (yL_law, cL_law, 18, (some .boolean), 11, 456, 600000, 7302250)
def n_Zl : NZ := (fun A s => ∀ q, A q → s.heap.size ≤ q, fun _ _ below args s => lw_Z below args s)
theorem n_law_ret {G : GT} {sc : NC} {bs : NB} {pc : Nat} {lv : List (Nat × MV)} {N : NM} (hd : decode code pc = .ok (.ireturn, 1)) : n_Run G mtL_law room_1 n_Zl sc bs 600000 7302250 pc lv [mi 1] N := by
  intro p e s m args below meth c H locs b A ls C hP hD hS hA h9 hl
  exact va_forget (fun q hq => h9 _ (hS.2.2 q hq)) (lw_retg C.1 C.2.1 C.2.2.2.1 C.2.2.2.2.1 hd)

theorem x_could {G : GT} {B : MM} {M N : MI} (hc : CRn B M N) : Sp G mtX7_could [mr 0] shX B.1 B.2.1 B.2.2 (qi (fun z I' L' R' => z = (s_could M).1 ∧ CRn (I', L', R') (s_could M).2 N)) := by
  obtain ⟨h, h', co, cc⟩ := hc
  exact (s_X7_could co cc).imp (fun v I' L' R' ⟨z, hv, a, b, c⟩ => ⟨z, hv, a, h, h', b, c⟩)
theorem x_fewest {G : GT} {B : MM} {M N : MI} (hc : CRn B M N) : Sp G mtX7_fewest [mr 0] shX B.1 B.2.1 B.2.2 (qi (fun z I' L' R' => z = fwF M ((M 0 13).toNat + 1) 0 ∧ CRn (I', L', R') M N)) := by
  obtain ⟨h, h', co, cc⟩ := hc
  exact (s_X7_fewest co cc).imp (fun v I' L' R' ⟨z, hv, a, b, c⟩ => ⟨z, hv, a, h, h', b, c⟩)
theorem x_ways {G : GT} {B : MM} {M N : MI} (hc : CRn B M N) : Sp G mtX7_ways [mr 0] shX B.1 B.2.1 B.2.2 (qi (fun z I' L' R' => z = (s_ways M).1 ∧ CRn (I', L', R') M ((s_ways M).2 N))) := by
  obtain ⟨h, h', co, cc⟩ := hc
  exact (s_X7_ways co cc).imp (fun v I' L' R' ⟨z, hv, a, b, c⟩ => ⟨z, hv, a, h, h', b, c⟩)
theorem x_rooms {G : GT} {B : MM} {M N : MI} {r t : Int} (hc : CRn B M N) (hr : rI r) (ht : rI t) : Sp G mtX7_rooms [mr 0, mi r, mi t] shX B.1 B.2.1 B.2.2 (qi (fun z I' L' R' => z = (s_rooms r t M).1 ∧ CRn (I', L', R') (s_rooms r t M).2 N)) := by
  obtain ⟨h, h', co, cc⟩ := hc
  exact (s_X7_rooms co cc hr ht).imp (fun v I' L' R' ⟨z, hv, a, b, c⟩ => ⟨z, hv, a, h, h', b, c⟩)
theorem x_empty {G : GT} {B : MM} {M N : MI} {t : Int} (hc : CRn B M N) (ht : rI t) : Sp G mtX7_empty [mr 0, mi t] shX B.1 B.2.1 B.2.2 (qi (fun z I' L' R' => z = (s_empty t M).1 ∧ CRn (I', L', R') (s_empty t M).2 N)) := by
  obtain ⟨h, h', co, cc⟩ := hc
  exact (s_X7_empty co cc ht).imp (fun v I' L' R' ⟨z, hv, a, b, c⟩ => ⟨z, hv, a, h, h', b, c⟩)
theorem x_where {G : GT} {B : MM} {M N : MI} {w t : Int} (hc : CRn B M N) (hw : rI w) (ht : rI t) : Sp G mtX7_where [mr 0, mi w, mi t] shX B.1 B.2.1 B.2.2 (qi (fun z I' L' R' => z = (s_where w t M).1 ∧ CRn (I', L', R') (s_where w t M).2 N)) := by
  obtain ⟨h, h', co, cc⟩ := hc
  exact (s_X7_where co cc hw ht).imp (fun v I' L' R' ⟨z, hv, a, b, c⟩ => ⟨z, hv, a, h, h', b, c⟩)
theorem x_met {G : GT} {B : MM} {M N : MI} {w o : Int} (hc : CRn B M N) (hw : rI w) (ho : rI o) : Sp G mtX7_met [mr 0, mi w, mi o] shX B.1 B.2.1 B.2.2 (qi (fun z I' L' R' => z = (s_met w o M).1 ∧ CRn (I', L', R') (s_met w o M).2 N)) := by
  obtain ⟨h, h', co, cc⟩ := hc
  exact (s_X7_met co cc hw ho).imp (fun v I' L' R' ⟨z, hv, a, b, c⟩ => ⟨z, hv, a, h, h', b, c⟩)
theorem x_still {G : GT} {B : MM} {M N : MI} {w m : Int} (hc : CRn B M N) (hw : rI w) (hm : rI m) : Sp G mtX7_still [mr 0, mi w, mi m] shX B.1 B.2.1 B.2.2 (qi (fun z I' L' R' => z = (s_still w m M).1 ∧ CRn (I', L', R') (s_still w m M).2 N)) := by
  obtain ⟨h, h', co, cc⟩ := hc
  exact (s_X7_still co cc hw hm).imp (fun v I' L' R' ⟨z, hv, a, b, c⟩ => ⟨z, hv, a, h, h', b, c⟩)
theorem x_whose {G : GT} {B : MM} {M N : MI} {e : Int} (hc : CRn B M N) (he : rI e) : Sp G mtX7_whose [mr 0, mi e] shX B.1 B.2.1 B.2.2 (qi (fun z I' L' R' => z = (s_whose e M).1 ∧ CRn (I', L', R') (s_whose e M).2 N)) := by
  obtain ⟨h, h', co, cc⟩ := hc
  exact (s_X7_whose co cc he).imp (fun v I' L' R' ⟨z, hv, a, b, c⟩ => ⟨z, hv, a, h, h', b, c⟩)
theorem x_same {G : GT} {B : MM} {M N : MI} {e : Int} (hc : CRn B M N) (he : rI e) : Sp G mtX7_same [mr 0, mi e] shX B.1 B.2.1 B.2.2 (qi (fun z I' L' R' => z = (s_same e M).1 ∧ CRn (I', L', R') (s_same e M).2 N)) := by
  obtain ⟨h, h', co, cc⟩ := hc
  exact (s_X7_same co cc he).imp (fun v I' L' R' ⟨z, hv, a, b, c⟩ => ⟨z, hv, a, h, h', b, c⟩)
theorem x_passes {G : GT} {B : MM} {M N : MI} {d : Int} (hc : CRn B M N) (hd : rI d) : Sp G mtX7_passes [mr 0, mi d] shX B.1 B.2.1 B.2.2 (qi (fun z I' L' R' => z = (s_passes d M).1 ∧ CRn (I', L', R') (s_passes d M).2 N)) := by
  obtain ⟨h, h', co, cc⟩ := hc
  exact (s_X7_passes co cc hd).imp (fun v I' L' R' ⟨z, hv, a, b, c⟩ => ⟨z, hv, a, h, h', b, c⟩)
theorem x_third {G : GT} {B : MM} {M N : MI} (hc : CRn B M N) : Sp G mtX7_third [mr 0] shX B.1 B.2.1 B.2.2 (qi (fun z I' L' R' => z = (s_third M).1 ∧ CRn (I', L', R') (s_third M).2 N)) := by
  obtain ⟨h, h', co, cc⟩ := hc
  exact (s_X7_third co cc).imp (fun v I' L' R' ⟨z, hv, a, b, c⟩ => ⟨z, hv, a, h, h', b, c⟩)
theorem x_chance {G : GT} {B : MM} {M N : MI} {r t : Int} (hc : CRn B M N) (hr : rI r) (ht : rI t) : Sp G mtX7_chance [mr 0, mi r, mi t] shX B.1 B.2.1 B.2.2 (qi (fun z I' L' R' => z = (s_chance r t M).1 ∧ CRn (I', L', R') (s_chance r t M).2 (l_chance r t M N))) := by
  obtain ⟨h, h', co, cc⟩ := hc
  exact (s_X7_chance co cc hr ht).imp (fun v I' L' R' ⟨z, hv, a, b, c⟩ => ⟨z, hv, a, h, h', b, c⟩)
theorem x_likely {G : GT} {B : MM} {M N : MI} {w t : Int} (hc : CRn B M N) (hw : rI w) (ht : rI t) : Sp G mtX7_likely [mr 0, mi w, mi t] shX B.1 B.2.1 B.2.2 (qi (fun z I' L' R' => z = (s_likely w t M).1 ∧ CRn (I', L', R') (s_likely w t M).2 (l_likely w t M N))) := by
  obtain ⟨h, h', co, cc⟩ := hc
  exact (s_X7_likely co cc hw ht).imp (fun v I' L' R' ⟨z, hv, a, b, c⟩ => ⟨z, hv, a, h, h', b, c⟩)
theorem x_cheapest {G : GT} {B : MM} {M N : MI} {m f : Int} (hc : CRn B M N) (hm : rI m) (hf : rI f) : Sp G mtX7_cheapest [mr 0, mi m, mi f] shX B.1 B.2.1 B.2.2 (qi (fun z I' L' R' => z = (s_cheapest m f M).1 ∧ CRn (I', L', R') (s_cheapest m f M).2 N)) := by
  obtain ⟨h, h', co, cc⟩ := hc
  exact (s_X7_cheapest co cc hm hf).imp (fun v I' L' R' ⟨z, hv, a, b, c⟩ => ⟨z, hv, a, h, h', b, c⟩)
theorem x_settle {G : GT} {B : MM} {M N : MI} {m f q : Int} (hc : CRn B M N) (hm : rI m) (hf : rI f) (hq : rI q) : Sp G mtX7_settle [mr 0, mi m, mi f, mi q] shX B.1 B.2.1 B.2.2 (qi (fun z I' L' R' => z = (s_settle m f q M).1 ∧ CRn (I', L', R') (s_settle m f q M).2 N)) := by
  obtain ⟨h, h', co, cc⟩ := hc
  exact (s_X7_settle co cc hm hf hq).imp (fun v I' L' R' ⟨z, hv, a, b, c⟩ => ⟨z, hv, a, h, h', b, c⟩)
theorem x_stuck {G : GT} {B : MM} {M N : MI} (hc : CRn B M N) : Sp G mtX7_stuck [mr 0] shX B.1 B.2.1 B.2.2 (qi (fun z I' L' R' => z = s_stuck M ∧ CRn (I', L', R') M N)) := by
  obtain ⟨h, h', co, cc⟩ := hc
  exact (s_X7_stuck co cc).imp (fun v I' L' R' ⟨z, hv, a, b, c⟩ => ⟨z, hv, a, h, h', b, c⟩)
theorem x_quarrel {G : GT} {B : MM} {M N : MI} (hc : CRn B M N) : Sp G mtX7_quarrel [mr 0] shX B.1 B.2.1 B.2.2 (qi (fun z I' L' R' => z = (s_quarrel M).1 ∧ CRn (I', L', R') M ((s_quarrel M).2 N))) := by
  obtain ⟨h, h', co, cc⟩ := hc
  exact (s_X7_quarrel co cc).imp (fun v I' L' R' ⟨z, hv, a, b, c⟩ => ⟨z, hv, a, h, h', b, c⟩)
theorem x_mark {G : GT} {B : MM} {M N : MI} {e k : Int} (hc : CRn B M N) (he : rI e) (hk : rI k) : Sp G mtX7_mark [mr 0, mi e, mi k] shX B.1 B.2.1 B.2.2 (qi (fun z I' L' R' => z = (s_mark e k M).1 ∧ CRn (I', L', R') (s_mark e k M).2 N)) := by
  obtain ⟨h, h', co, cc⟩ := hc
  exact (s_X7_mark co cc he hk).imp (fun v I' L' R' ⟨z, hv, a, b, c⟩ => ⟨z, hv, a, h, h', b, c⟩)
theorem x_event {G : GT} {B : MM} {M N : MI} {k a b t : Int} (hc : CRn B M N) (hk : rI k) (ha : rI a) (hb : rI b) (ht : rI t) : Sp G mtX7_event [mr 0, mi k, mi a, mi b, mi t] shX B.1 B.2.1 B.2.2 (qi (fun z I' L' R' => z = (s_event k a b t M).1 ∧ CRn (I', L', R') (s_event k a b t M).2 N)) := by
  obtain ⟨h, h', co, cc⟩ := hc
  exact (s_X7_event co cc hk ha hb ht).imp (fun v I' L' R' ⟨z, hv, a, b, c⟩ => ⟨z, hv, a, h, h', b, c⟩)
theorem x_asked {G : GT} {B : MM} {M N : MI} (hc : CRn B M N) : Sp G mtX7_asked [mr 0] shX B.1 B.2.1 B.2.2 (qi (fun z I' L' R' => z = M 0 2 ∧ I' = B.1 ∧ L' = B.2.1 ∧ R' = B.2.2)) := by
  obtain ⟨h, h', co, cc⟩ := hc
  exact s_X7_asked co cc
theorem x_many {G : GT} {B : MM} {M N : MI} (hc : CRn B M N) : Sp G mtX7_many [mr 0] shX B.1 B.2.1 B.2.2 (ql (fun z I' L' R' => z = N 0 3 ∧ I' = B.1 ∧ L' = B.2.1 ∧ R' = B.2.2)) := by
  obtain ⟨h, h', co, cc⟩ := hc
  exact s_X7_many co cc
theorem x_upper {G : GT} {B : MM} {M N : MI} (hc : CRn B M N) : Sp G mtX7_upper [mr 0] shX B.1 B.2.1 B.2.2 (ql (fun z I' L' R' => z = N 0 4 ∧ I' = B.1 ∧ L' = B.2.1 ∧ R' = B.2.2)) := by
  obtain ⟨h, h', co, cc⟩ := hc
  exact s_X7_upper co cc
theorem x_lower {G : GT} {B : MM} {M N : MI} (hc : CRn B M N) : Sp G mtX7_lower [mr 0] shX B.1 B.2.1 B.2.2 (ql (fun z I' L' R' => z = N 0 5 ∧ I' = B.1 ∧ L' = B.2.1 ∧ R' = B.2.2)) := by
  obtain ⟨h, h', co, cc⟩ := hc
  exact s_X7_lower co cc
/-- both objects, while they are asked -/
def QI (R D W T n : Nat) (ok : Bool) (N : NM) (M Nn M' Nn' : MI) : Prop := (CRn (N 0) M Nn ∧ CRn (N 1) M' Nn') ∧ PM M M' ∧ (M 0 11 = R ∧ M 0 12 = D ∧ M 0 13 = W ∧ M 0 14 = T ∧ M 0 25 = n) ∧ okA M = ok ∧ (N 2).1 0 1 = (D : Int)
theorem okA_hn {M K M' : MI} (h : PM M M') (k : HN M K) : okA K = okA M := by
  rw [Bool.eq_iff_iff, okA_eq (k.e h.1.2.1) (k.l h.1.2.2), okA_eq h.1.2.1 h.1.2.2, fst0_sc (kM_hn k)]
section
variable {R D W T n : Nat} {ok : Bool} {N K : NM} {M Nn M' Nn' M1 N1 : MI}
theorem QI.o (q : QI R D W T n ok N M Nn M' Nn') (hc : CRn (K 0) M1 N1) (hn : HN M M1) (ho : ∀ j, j ≠ 0 → K j = N j) : QI R D W T n ok K M1 N1 M' Nn' := by
  obtain ⟨⟨a1, a2⟩, p, ⟨b1, b2, b3, b4, b5⟩, c, d⟩ := q
  refine ⟨⟨hc, by rw [ho 1 (by decide)]; exact a2⟩, p.hn hn (HN.rf _), ⟨by rw [hn.2 11 (by omega)]; exact b1, by rw [hn.2 12 (by omega)]; exact b2, by rw [hn.2 13 (by omega)]; exact b3, by rw [hn.2 14 (by omega)]; exact b4, by rw [hn.2 25 (by omega)]; exact b5⟩, by rw [okA_hn p hn]; exact c, by rw [ho 2 (by decide)]; exact d⟩
theorem QI.q (q : QI R D W T n ok N M Nn M' Nn') (hc : CRn (K 1) M1 N1) (hn : HN M' M1) (ho : ∀ j, j ≠ 1 → K j = N j) : QI R D W T n ok K M Nn M1 N1 := by
  obtain ⟨⟨a1, a2⟩, p, b, c, d⟩ := q
  exact ⟨⟨by rw [ho 0 (by decide)]; exact a1, hc⟩, p.hn (HN.rf _) hn, b, c, by rw [ho 2 (by decide)]; exact d⟩
theorem QI.bd (q : QI R D W T n ok N M Nn M' Nn') (hR : R ≤ 5) (hD : D ≤ 6) (hT : T ≤ 5) : Bd M := by
  obtain ⟨-, -, ⟨b1, b2, b3, b4, b5⟩, -⟩ := q
  unfold Bd
  omega
end
/-- ranges of answers -/
theorem cheap_r {M M' : MI} (h : PM M M') {m f : Int} (hm : 0 ≤ m ∧ m ≤ 99) (hf : 0 ≤ f ∧ f ≤ 99) : -9 ≤ (s_cheapest m f M).1 ∧ (s_cheapest m f M).1 ≤ 47521 := by
  have r := chB_r (k := M 0 13) (m := m) (f := f) h.1.1 h.1.2.1 ⟨h.1.1.2.2.1.1, Int.le_refl _⟩ hm hf
  rw [cheap_e hm hf]
  split
  · exact ⟨Int.le_refl _, by show (-9 : Int) ≤ 47521; omega⟩
  · show -9 ≤ chB M (M 0 13) m f / 1000 ∧ chB M (M 0 13) m f / 1000 ≤ 47521
    omega
theorem settle_r {M M' : MI} (h : PM M M') {m f q : Int} (hm : 0 ≤ m ∧ m ≤ 99) (hf : 0 ≤ f ∧ f ≤ 99) (hq : 0 ≤ q ∧ q ≤ 99) : -9 ≤ (s_settle m f q M).1 ∧ (s_settle m f q M).1 ≤ 9 := by
  have hW := h.1.1.2.2.1
  have r := seF_r h.1.1 h.1.2.1 hm hf hq (M 0 13 + 1).toNat (by omega)
  rw [settle_e hm hf hq]
  split
  · exact ⟨Int.le_refl _, by show (-9 : Int) ≤ 9; omega⟩
  · show -9 ≤ (seF M m f q (M 0 13 + 1).toNat).1 ∧ (seF M m f q (M 0 13 + 1).toNat).1 ≤ 9
    omega
theorem still_r {M M' : MI} (h : PM M M') (ok : okA M = true) {w n : Nat} (hw : (w : Int) < M 0 13) (hn : 1 ≤ n ∧ n ≤ 30) : 0 ≤ (s_still w n M).1 ∧ (s_still w n M).1 ≤ 2 := by
  obtain ⟨-, s1⟩ := still_e h ok hw hn
  rcases s1 with ⟨p1, p2⟩ | ⟨p1, p2, p3⟩ | ⟨p1, p2, p3⟩ <;> omega
theorem passes_r {M M' : MI} (h : PM M M') (ok : okA M = true) {d : Nat} (hd : (d : Int) < M 0 12) : (0 ≤ (s_passes d M).1 ∧ (s_passes d M).1 ≤ 30) ∧ 0 ≤ (s_passes d M).2 0 2 ∧ (s_passes d M).2 0 2 ≤ 30 := by
  have kt := kM_T h
  have hT := h.1.1.2.2.2.1
  have e1 : s_passes d M = (pmn (kM M) d, a_tl M (pmx (kM M) d)) := by
    unfold s_passes
    rw [if_neg (by omega), if_neg (by rw [ok]; simp)]
    rfl
  have m1 : 0 ≤ pmn (kM M) d ∧ pmn (kM M) d ≤ (lst (kM M) : Int) := mnF_r _ _
  have m2 : 0 ≤ pmx (kM M) d ∧ pmx (kM M) d ≤ (lst (kM M) : Int) := mnF_r _ _
  rw [e1]
  show (0 ≤ pmn (kM M) d ∧ pmn (kM M) d ≤ 30) ∧ 0 ≤ a_tl M (pmx (kM M) d) 0 2 ∧ a_tl M (pmx (kM M) d) 0 2 ≤ 30
  rw [tl_02]
  omega
theorem likely_r {M M' : MI} (h : PM M M') (b : Bd M) (ok : okA M = true) {w t : Nat} (hw : (w : Int) < M 0 13) (ht : (t : Int) ≤ M 0 14) : 0 ≤ (s_likely w t M).1 ∧ (s_likely w t M).1 ≤ 5 := by
  have wa := aw_bd h b
  have e1 : (s_likely w t M).1 = ((lkB (fun r => lkS (kM M) w t r (nst (kM M))) 5 : Nat) : Int) := by
    unfold s_likely
    rw [if_neg (by omega), if_neg (by rw [ok]; simp), if_neg (by show ¬ _ < aw (kM M); omega)]
    rfl
  have := lkB_r (fun r => lkS (kM M) w t r (nst (kM M))) 5
  rw [e1]
  omega
theorem whose_r {M : MI} (ok : okA M = true) {e : Nat} (he : (e : Int) < M 0 25) : rI (s_whose e M).1 := by
  rw [whose_e ok he]
  split
  · show rI (-3); omega
  · exact pMay_r _ _ _
theorem same_r {M : MI} (ok : okA M = true) {e : Nat} (he : (e : Int) < M 0 25) : rI (s_same e M).1 := by
  rw [same_e ok he]
  split
  · show rI (-3); omega
  · exact foC_inv (T := fun x : Int => rI x) (fun _ _ _ => z_or_r _ _) (by omega) _
theorem empty_r {M M' : MI} (h : PM M M') (ok : okA M = true) : rI (s_empty 0 M).1 := by
  have hT := h.1.1.2.2.2.1
  have e1 : (s_empty 0 M).1 = emN (kM M) 0 (M 0 11).toNat := by
    unfold s_empty
    rw [if_neg (by omega), if_neg (by rw [ok]; simp)]
    rfl
  rw [e1]
  exact orf_r _ _
theorem ways_r {M M' : MI} (h : PM M M') (b : Bd M) (N : MI) : 0 ≤ (s_ways M).2 N 0 3 ∧ (s_ways M).2 N 0 3 ≤ 1000000000000000 := by
  obtain ⟨-, a, e⟩ := ways_v h b N
  have := aw_bd h b
  have := b01_r (okA M = true)
  refine ⟨by omega, ?_⟩
  rw [e]
  split <;> omega


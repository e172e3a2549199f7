/-! RULES FOR METHODS THAT MAKE NO CELL: the memory in three functions -/
abbrev MI : Type := Nat → Int → Int
abbrev MR : Type := Nat → Int → Option Nat
def Rn (G : GT) (μ : MT) (Q : Option MV → MI → MI → MR → Prop) (pc : Nat) (lv : List (Nat × MV)) (st : List MV) (sh : MS) (I L : MI) (R : MR) : Prop :=
  m_Run G μ false (fun v s m => s = sh ∧ Q v m.1 m.2.1 m.2.2) 0 0 pc lv st sh (I, L, R)
def Sp (G : GT) (μ : MT) (as : List MV) (sh : MS) (I L : MI) (R : MR) (Q : Option MV → MI → MI → MR → Prop) : Prop :=
  m_Spec G μ false as sh (I, L, R) (fun v s m => s = sh ∧ Q v m.1 m.2.1 m.2.2)
/-- the answer is an int, a long, none -/
def qi (q : Int → MI → MI → MR → Prop) : Option MV → MI → MI → MR → Prop := fun v I L R => ∃ z, v = some (mi z) ∧ q z I L R
def ql (q : Int → MI → MI → MR → Prop) : Option MV → MI → MI → MR → Prop := fun v I L R => ∃ z, v = some (ml z) ∧ q z I L R
def qv (q : MI → MI → MR → Prop) : Option MV → MI → MI → MR → Prop := fun v I L R => v = none ∧ q I L R
theorem Sp.of {G : GT} {μ : MT} {as : List MV} {sh : MS} {I L : MI} {R : MR} {Q : Option MV → MI → MI → MR → Prop} (hp : plainName μ.y.cls = true) (hw : Nat.ble (m_wid as) μ.nL = true)
    (h : Rn G μ Q 0 (m_args 0 as) [] sh I L R) : Sp G μ as sh I L R Q := m_Spec.of hp (Nat.le_of_ble_eq_true hw) h
section
variable {G : GT} {μ : MT} {Q : Option MV → MI → MI → MR → Prop} {pc : Nat} {lv : List (Nat × MV)} {st : List MV} {sh : MS} {I L : MI} {R : MR}
theorem x_iconst {n : Int} (hd : decode μ.cc pc = .ok (.iconst n, 1)) (k : Rn G μ Q (pc + 1) lv (mi n :: st) sh I L R) : Rn G μ Q pc lv st sh I L R :=
  r_iconst (M := (I, L, R)) hd k
theorem x_bipush {n : Int} (hd : decode μ.cc pc = .ok (.bipush n, 2)) (hv : (Int8.ofInt n).toInt32 = Int32.ofInt n) (k : Rn G μ Q (pc + 2) lv (mi n :: st) sh I L R) : Rn G μ Q pc lv st sh I L R :=
  r_bipush (M := (I, L, R)) hd hv k
theorem x_sipush {n : Int} (hd : decode μ.cc pc = .ok (.sipush n, 3)) (hv : (Int16.ofInt n).toInt32 = Int32.ofInt n) (k : Rn G μ Q (pc + 3) lv (mi n :: st) sh I L R) : Rn G μ Q pc lv st sh I L R :=
  r_sipush (M := (I, L, R)) hd hv k
theorem x_lconst {n : Fin 2} (z : Int) (hd : decode μ.cc pc = .ok (.lconst n, 1)) (hv : Int64.ofNat (n : Nat) = Int64.ofInt z) (k : Rn G μ Q (pc + 1) lv (ml z :: st) sh I L R) : Rn G μ Q pc lv st sh I L R :=
  r_lconst (M := (I, L, R)) z hd hv k
theorem x_ldc {idx : Nat} (z : Int) (hd : decode μ.cc pc = .ok (.ldc idx, 2)) (hw : Cond.constant μ.y.cls idx (Int32.ofInt z) ∈ m_tbl) (k : Rn G μ Q (pc + 2) lv (mi z :: st) sh I L R) : Rn G μ Q pc lv st sh I L R :=
  r_ldc (M := (I, L, R)) z hd hw k
theorem x_ldcw {idx : Nat} (z : Int) (hd : decode μ.cc pc = .ok (.ldc_w idx, 3)) (hw : Cond.constant μ.y.cls idx (Int32.ofInt z) ∈ m_tbl) (k : Rn G μ Q (pc + 3) lv (mi z :: st) sh I L R) : Rn G μ Q pc lv st sh I L R :=
  r_ldcw (M := (I, L, R)) z hd hw k
theorem x_ldc2 {idx : Nat} (z : Int) (hd : decode μ.cc pc = .ok (.ldc2_w idx, 3)) (hw : Cond.constantLong μ.y.cls idx (Int64.ofInt z) ∈ m_tbl) (k : Rn G μ Q (pc + 3) lv (ml z :: st) sh I L R) : Rn G μ Q pc lv st sh I L R :=
  r_ldc2 (M := (I, L, R)) z hd hw k
theorem x_iload_n {j : Fin 4} {i : Nat} {x : Int} (hd : decode μ.cc pc = .ok (.iload_n j, 1)) (q : Nat) (hq : lv[q]? = some (i, mi x)) (hi : (j : Nat) = i) (k : Rn G μ Q (pc + 1) lv (mi x :: st) sh I L R) : Rn G μ Q pc lv st sh I L R :=
  r_iload_n (M := (I, L, R)) hd q hq hi k
theorem x_iload {i : Nat} {x : Int} (hd : decode μ.cc pc = .ok (.iload i, 2)) (q : Nat) (hq : lv[q]? = some (i, mi x)) (k : Rn G μ Q (pc + 2) lv (mi x :: st) sh I L R) : Rn G μ Q pc lv st sh I L R :=
  r_iload (M := (I, L, R)) hd q hq k
theorem x_lload_n {j : Fin 4} {i : Nat} {x : Int} (hd : decode μ.cc pc = .ok (.lload_n j, 1)) (q : Nat) (hq : lv[q]? = some (i, ml x)) (hi : (j : Nat) = i) (k : Rn G μ Q (pc + 1) lv (ml x :: st) sh I L R) : Rn G μ Q pc lv st sh I L R :=
  r_lload_n (M := (I, L, R)) hd q hq hi k
theorem x_lload {i : Nat} {x : Int} (hd : decode μ.cc pc = .ok (.lload i, 2)) (q : Nat) (hq : lv[q]? = some (i, ml x)) (k : Rn G μ Q (pc + 2) lv (ml x :: st) sh I L R) : Rn G μ Q pc lv st sh I L R :=
  r_lload (M := (I, L, R)) hd q hq k
theorem x_aload_n {j : Fin 4} {i : Nat} {x : Nat} (hd : decode μ.cc pc = .ok (.aload_n j, 1)) (q : Nat) (hq : lv[q]? = some (i, mr x)) (hi : (j : Nat) = i) (k : Rn G μ Q (pc + 1) lv (mr x :: st) sh I L R) : Rn G μ Q pc lv st sh I L R :=
  r_aload_n (M := (I, L, R)) hd q hq hi k
theorem x_aload {i : Nat} {x : Nat} (hd : decode μ.cc pc = .ok (.aload i, 2)) (q : Nat) (hq : lv[q]? = some (i, mr x)) (k : Rn G μ Q (pc + 2) lv (mr x :: st) sh I L R) : Rn G μ Q pc lv st sh I L R :=
  r_aload (M := (I, L, R)) hd q hq k
theorem x_istore_n {j : Fin 4} {i : Nat} {x : Int} {lv' : List (Nat × MV)} (hd : decode μ.cc pc = .ok (.istore_n j, 1)) (hi : (j : Nat) = i) (hn : Nat.blt i μ.nL = true) (hl' : m_st i (mi x) lv = lv') (k : Rn G μ Q (pc + 1) lv' st sh I L R) : Rn G μ Q pc lv (mi x :: st) sh I L R :=
  r_istore_n (M := (I, L, R)) hd hi hn hl' k
theorem x_istore {i : Nat} {x : Int} {lv' : List (Nat × MV)} (hd : decode μ.cc pc = .ok (.istore i, 2)) (hn : Nat.blt i μ.nL = true) (hl' : m_st i (mi x) lv = lv') (k : Rn G μ Q (pc + 2) lv' st sh I L R) : Rn G μ Q pc lv (mi x :: st) sh I L R :=
  r_istore (M := (I, L, R)) hd hn hl' k
theorem x_astore_n {j : Fin 4} {i : Nat} {x : Nat} {lv' : List (Nat × MV)} (hd : decode μ.cc pc = .ok (.astore_n j, 1)) (hi : (j : Nat) = i) (hn : Nat.blt i μ.nL = true) (hl' : m_st i (mr x) lv = lv') (k : Rn G μ Q (pc + 1) lv' st sh I L R) : Rn G μ Q pc lv (mr x :: st) sh I L R :=
  r_astore_n (M := (I, L, R)) hd hi hn hl' k
theorem x_astore {i : Nat} {x : Nat} {lv' : List (Nat × MV)} (hd : decode μ.cc pc = .ok (.astore i, 2)) (hn : Nat.blt i μ.nL = true) (hl' : m_st i (mr x) lv = lv') (k : Rn G μ Q (pc + 2) lv' st sh I L R) : Rn G μ Q pc lv (mr x :: st) sh I L R :=
  r_astore (M := (I, L, R)) hd hn hl' k
theorem x_lstore_n {j : Fin 4} {i : Nat} {x : Int} {lv' : List (Nat × MV)} (hd : decode μ.cc pc = .ok (.lstore_n j, 1)) (hi : (j : Nat) = i) (hn : Nat.blt (i + 1) μ.nL = true) (hl' : m_st i (ml x) lv = lv') (k : Rn G μ Q (pc + 1) lv' st sh I L R) : Rn G μ Q pc lv (ml x :: st) sh I L R :=
  r_lstore_n (M := (I, L, R)) hd hi hn hl' k
theorem x_lstore {i : Nat} {x : Int} {lv' : List (Nat × MV)} (hd : decode μ.cc pc = .ok (.lstore i, 2)) (hn : Nat.blt (i + 1) μ.nL = true) (hl' : m_st i (ml x) lv = lv') (k : Rn G μ Q (pc + 2) lv' st sh I L R) : Rn G μ Q pc lv (ml x :: st) sh I L R :=
  r_lstore (M := (I, L, R)) hd hn hl' k
theorem x_iinc {i : Nat} {n x : Int} {lv' : List (Nat × MV)} (hd : decode μ.cc pc = .ok (.iinc i n, 3)) (q : Nat) (hq : lv[q]? = some (i, mi x)) (hn : Nat.blt i μ.nL = true) (hl' : m_st i (mi (x + n)) lv = lv') (k : Rn G μ Q (pc + 3) lv' st sh I L R) : Rn G μ Q pc lv st sh I L R :=
  r_iinc (M := (I, L, R)) hd q hq hn hl' k
theorem x_dup {v : MV} (hd : decode μ.cc pc = .ok (.dup, 1)) (hc : m_cat v = 1) (k : Rn G μ Q (pc + 1) lv (v :: v :: st) sh I L R) : Rn G μ Q pc lv (v :: st) sh I L R :=
  r_dup (M := (I, L, R)) hd hc k
theorem x_dup2 {v w : MV} (hd : decode μ.cc pc = .ok (.dup2, 1)) (hc : m_cat v = 1) (hc2 : m_cat w = 1) (k : Rn G μ Q (pc + 1) lv (v :: w :: v :: w :: st) sh I L R) : Rn G μ Q pc lv (v :: w :: st) sh I L R :=
  r_dup2 (M := (I, L, R)) hd hc hc2 k
theorem x_pop {v : MV} (hd : decode μ.cc pc = .ok (.pop, 1)) (hc : m_cat v = 1) (k : Rn G μ Q (pc + 1) lv st sh I L R) : Rn G μ Q pc lv (v :: st) sh I L R :=
  r_pop (M := (I, L, R)) hd hc k
theorem x_iadd {x y : Int} (hd : decode μ.cc pc = .ok (.iadd, 1)) (k : Rn G μ Q (pc + 1) lv (mi (x + y) :: st) sh I L R) : Rn G μ Q pc lv (mi y :: mi x :: st) sh I L R :=
  r_iadd (M := (I, L, R)) hd k
theorem x_isub {x y : Int} (hd : decode μ.cc pc = .ok (.isub, 1)) (k : Rn G μ Q (pc + 1) lv (mi (x - y) :: st) sh I L R) : Rn G μ Q pc lv (mi y :: mi x :: st) sh I L R :=
  r_isub (M := (I, L, R)) hd k
theorem x_imul {x y : Int} (hd : decode μ.cc pc = .ok (.imul, 1)) (k : Rn G μ Q (pc + 1) lv (mi (x * y) :: st) sh I L R) : Rn G μ Q pc lv (mi y :: mi x :: st) sh I L R :=
  r_imul (M := (I, L, R)) hd k
theorem x_ladd {x y : Int} (hd : decode μ.cc pc = .ok (.ladd, 1)) (k : Rn G μ Q (pc + 1) lv (ml (x + y) :: st) sh I L R) : Rn G μ Q pc lv (ml y :: ml x :: st) sh I L R :=
  r_ladd (M := (I, L, R)) hd k
theorem x_lsub {x y : Int} (hd : decode μ.cc pc = .ok (.lsub, 1)) (k : Rn G μ Q (pc + 1) lv (ml (x - y) :: st) sh I L R) : Rn G μ Q pc lv (ml y :: ml x :: st) sh I L R :=
  r_lsub (M := (I, L, R)) hd k
theorem x_lmul {x y : Int} (hd : decode μ.cc pc = .ok (.lmul, 1)) (k : Rn G μ Q (pc + 1) lv (ml (x * y) :: st) sh I L R) : Rn G μ Q pc lv (ml y :: ml x :: st) sh I L R :=
  r_lmul (M := (I, L, R)) hd k
theorem x_iand {x y : Int} (hd : decode μ.cc pc = .ok (.iand, 1)) (k : Rn G μ Q (pc + 1) lv (mi (z_and x y) :: st) sh I L R) : Rn G μ Q pc lv (mi y :: mi x :: st) sh I L R :=
  r_iand (M := (I, L, R)) hd k
theorem x_ior {x y : Int} (hd : decode μ.cc pc = .ok (.ior, 1)) (k : Rn G μ Q (pc + 1) lv (mi (z_or x y) :: st) sh I L R) : Rn G μ Q pc lv (mi y :: mi x :: st) sh I L R :=
  r_ior (M := (I, L, R)) hd k
theorem x_ixor {x y : Int} (hd : decode μ.cc pc = .ok (.ixor, 1)) (k : Rn G μ Q (pc + 1) lv (mi (z_xor x y) :: st) sh I L R) : Rn G μ Q pc lv (mi y :: mi x :: st) sh I L R :=
  r_ixor (M := (I, L, R)) hd k
theorem x_ishl {x y : Int} (hd : decode μ.cc pc = .ok (.ishl, 1)) (k : Rn G μ Q (pc + 1) lv (mi (z_shl x y) :: st) sh I L R) : Rn G μ Q pc lv (mi y :: mi x :: st) sh I L R :=
  r_ishl (M := (I, L, R)) hd k
theorem x_ishr {x y : Int} (hd : decode μ.cc pc = .ok (.ishr, 1)) (k : Rn G μ Q (pc + 1) lv (mi (z_shr x y) :: st) sh I L R) : Rn G μ Q pc lv (mi y :: mi x :: st) sh I L R :=
  r_ishr (M := (I, L, R)) hd k
theorem x_iushr {x y : Int} (hd : decode μ.cc pc = .ok (.iushr, 1)) (k : Rn G μ Q (pc + 1) lv (mi (z_ushr x y) :: st) sh I L R) : Rn G μ Q pc lv (mi y :: mi x :: st) sh I L R :=
  r_iushr (M := (I, L, R)) hd k
theorem x_land {x y : Int} (hd : decode μ.cc pc = .ok (.land, 1)) (k : Rn G μ Q (pc + 1) lv (ml (z_landl x y) :: st) sh I L R) : Rn G μ Q pc lv (ml y :: ml x :: st) sh I L R :=
  r_land (M := (I, L, R)) hd k
theorem x_lor {x y : Int} (hd : decode μ.cc pc = .ok (.lor, 1)) (k : Rn G μ Q (pc + 1) lv (ml (z_lorl x y) :: st) sh I L R) : Rn G μ Q pc lv (ml y :: ml x :: st) sh I L R :=
  r_lor (M := (I, L, R)) hd k
theorem x_lxor {x y : Int} (hd : decode μ.cc pc = .ok (.lxor, 1)) (k : Rn G μ Q (pc + 1) lv (ml (z_lxorl x y) :: st) sh I L R) : Rn G μ Q pc lv (ml y :: ml x :: st) sh I L R :=
  r_lxor (M := (I, L, R)) hd k
theorem x_lshl {x y : Int} (hd : decode μ.cc pc = .ok (.lshl, 1)) (k : Rn G μ Q (pc + 1) lv (ml (z_shll x y) :: st) sh I L R) : Rn G μ Q pc lv (mi y :: ml x :: st) sh I L R :=
  r_lshl (M := (I, L, R)) hd k
theorem x_lshr {x y : Int} (hd : decode μ.cc pc = .ok (.lshr, 1)) (k : Rn G μ Q (pc + 1) lv (ml (z_shrl x y) :: st) sh I L R) : Rn G μ Q pc lv (mi y :: ml x :: st) sh I L R :=
  r_lshr (M := (I, L, R)) hd k
theorem x_i2l {x : Int} (hd : decode μ.cc pc = .ok (.i2l, 1)) (h : -2147483648 ≤ x ∧ x ≤ 2147483647) (k : Rn G μ Q (pc + 1) lv (ml x :: st) sh I L R) : Rn G μ Q pc lv (mi x :: st) sh I L R :=
  r_i2l (M := (I, L, R)) hd h k
theorem x_l2i {x : Int} (hd : decode μ.cc pc = .ok (.l2i, 1)) (k : Rn G μ Q (pc + 1) lv (mi x :: st) sh I L R) : Rn G μ Q pc lv (ml x :: st) sh I L R :=
  r_l2i (M := (I, L, R)) hd k
theorem x_i2b {x : Int} (hd : decode μ.cc pc = .ok (.i2b, 1)) (k : Rn G μ Q (pc + 1) lv (mi (z_b x) :: st) sh I L R) : Rn G μ Q pc lv (mi x :: st) sh I L R :=
  r_i2b (M := (I, L, R)) hd k
theorem x_ldiv {x y : Int} (hd : decode μ.cc pc = .ok (.ldiv, 1)) (hx : -9223372036854775808 ≤ x ∧ x ≤ 9223372036854775807) (hy : 0 < y ∧ y ≤ 9223372036854775807) (k : Rn G μ Q (pc + 1) lv (ml (x.tdiv y) :: st) sh I L R) : Rn G μ Q pc lv (ml y :: ml x :: st) sh I L R :=
  r_ldiv (M := (I, L, R)) hd hx hy k
theorem x_lrem {x y : Int} (hd : decode μ.cc pc = .ok (.lrem, 1)) (hx : -9223372036854775808 ≤ x ∧ x ≤ 9223372036854775807) (hy : 0 < y ∧ y ≤ 9223372036854775807) (k : Rn G μ Q (pc + 1) lv (ml (x.tmod y) :: st) sh I L R) : Rn G μ Q pc lv (ml y :: ml x :: st) sh I L R :=
  r_lrem (M := (I, L, R)) hd hx hy k
theorem x_goto {off : Int} {tgt : Nat} (hd : decode μ.cc pc = .ok (.goto off, 3)) (ht : (pc : Int) + off = (tgt : Int)) (k : Rn G μ Q tgt lv st sh I L R) : Rn G μ Q pc lv st sh I L R :=
  r_goto (M := (I, L, R)) hd ht k
theorem x_if_eq {x : Int} {off : Int} {tgt : Nat} (hd : decode μ.cc pc = .ok (.ifCond .eq off, 3)) (ht : (pc : Int) + off = (tgt : Int)) (h0 : -2147483648 ≤ x ∧ x ≤ 2147483647) (kt : x = 0 → Rn G μ Q tgt lv st sh I L R) (kf : ¬ (x = 0) → Rn G μ Q (pc + 3) lv st sh I L R) : Rn G μ Q pc lv (mi x :: st) sh I L R :=
  r_if_eq (M := (I, L, R)) hd ht h0 kt kf
theorem x_if_ne {x : Int} {off : Int} {tgt : Nat} (hd : decode μ.cc pc = .ok (.ifCond .ne off, 3)) (ht : (pc : Int) + off = (tgt : Int)) (h0 : -2147483648 ≤ x ∧ x ≤ 2147483647) (kt : x ≠ 0 → Rn G μ Q tgt lv st sh I L R) (kf : x = 0 → Rn G μ Q (pc + 3) lv st sh I L R) : Rn G μ Q pc lv (mi x :: st) sh I L R :=
  r_if_ne (M := (I, L, R)) hd ht h0 kt kf
theorem x_if_lt {x : Int} {off : Int} {tgt : Nat} (hd : decode μ.cc pc = .ok (.ifCond .lt off, 3)) (ht : (pc : Int) + off = (tgt : Int)) (h0 : -2147483648 ≤ x ∧ x ≤ 2147483647) (kt : x < 0 → Rn G μ Q tgt lv st sh I L R) (kf : ¬ (x < 0) → Rn G μ Q (pc + 3) lv st sh I L R) : Rn G μ Q pc lv (mi x :: st) sh I L R :=
  r_if_lt (M := (I, L, R)) hd ht h0 kt kf
theorem x_if_ge {x : Int} {off : Int} {tgt : Nat} (hd : decode μ.cc pc = .ok (.ifCond .ge off, 3)) (ht : (pc : Int) + off = (tgt : Int)) (h0 : -2147483648 ≤ x ∧ x ≤ 2147483647) (kt : 0 ≤ x → Rn G μ Q tgt lv st sh I L R) (kf : ¬ (0 ≤ x) → Rn G μ Q (pc + 3) lv st sh I L R) : Rn G μ Q pc lv (mi x :: st) sh I L R :=
  r_if_ge (M := (I, L, R)) hd ht h0 kt kf
theorem x_if_le {x : Int} {off : Int} {tgt : Nat} (hd : decode μ.cc pc = .ok (.ifCond .le off, 3)) (ht : (pc : Int) + off = (tgt : Int)) (h0 : -2147483648 ≤ x ∧ x ≤ 2147483647) (kt : x ≤ 0 → Rn G μ Q tgt lv st sh I L R) (kf : ¬ (x ≤ 0) → Rn G μ Q (pc + 3) lv st sh I L R) : Rn G μ Q pc lv (mi x :: st) sh I L R :=
  r_if_le (M := (I, L, R)) hd ht h0 kt kf
theorem x_ic_eq {x y : Int} {off : Int} {tgt : Nat} (hd : decode μ.cc pc = .ok (.if_icmp .eq off, 3)) (ht : (pc : Int) + off = (tgt : Int)) (h0 : (-2147483648 ≤ x ∧ x ≤ 2147483647) ∧ -2147483648 ≤ y ∧ y ≤ 2147483647) (kt : x = y → Rn G μ Q tgt lv st sh I L R) (kf : ¬ (x = y) → Rn G μ Q (pc + 3) lv st sh I L R) : Rn G μ Q pc lv (mi y :: mi x :: st) sh I L R :=
  r_ic_eq (M := (I, L, R)) hd ht h0 kt kf
theorem x_ic_ne {x y : Int} {off : Int} {tgt : Nat} (hd : decode μ.cc pc = .ok (.if_icmp .ne off, 3)) (ht : (pc : Int) + off = (tgt : Int)) (h0 : (-2147483648 ≤ x ∧ x ≤ 2147483647) ∧ -2147483648 ≤ y ∧ y ≤ 2147483647) (kt : x ≠ y → Rn G μ Q tgt lv st sh I L R) (kf : x = y → Rn G μ Q (pc + 3) lv st sh I L R) : Rn G μ Q pc lv (mi y :: mi x :: st) sh I L R :=
  r_ic_ne (M := (I, L, R)) hd ht h0 kt kf
theorem x_ic_lt {x y : Int} {off : Int} {tgt : Nat} (hd : decode μ.cc pc = .ok (.if_icmp .lt off, 3)) (ht : (pc : Int) + off = (tgt : Int)) (h0 : (-2147483648 ≤ x ∧ x ≤ 2147483647) ∧ -2147483648 ≤ y ∧ y ≤ 2147483647) (kt : x < y → Rn G μ Q tgt lv st sh I L R) (kf : ¬ (x < y) → Rn G μ Q (pc + 3) lv st sh I L R) : Rn G μ Q pc lv (mi y :: mi x :: st) sh I L R :=
  r_ic_lt (M := (I, L, R)) hd ht h0 kt kf
theorem x_ic_ge {x y : Int} {off : Int} {tgt : Nat} (hd : decode μ.cc pc = .ok (.if_icmp .ge off, 3)) (ht : (pc : Int) + off = (tgt : Int)) (h0 : (-2147483648 ≤ x ∧ x ≤ 2147483647) ∧ -2147483648 ≤ y ∧ y ≤ 2147483647) (kt : y ≤ x → Rn G μ Q tgt lv st sh I L R) (kf : ¬ (y ≤ x) → Rn G μ Q (pc + 3) lv st sh I L R) : Rn G μ Q pc lv (mi y :: mi x :: st) sh I L R :=
  r_ic_ge (M := (I, L, R)) hd ht h0 kt kf
theorem x_ic_gt {x y : Int} {off : Int} {tgt : Nat} (hd : decode μ.cc pc = .ok (.if_icmp .gt off, 3)) (ht : (pc : Int) + off = (tgt : Int)) (h0 : (-2147483648 ≤ x ∧ x ≤ 2147483647) ∧ -2147483648 ≤ y ∧ y ≤ 2147483647) (kt : y < x → Rn G μ Q tgt lv st sh I L R) (kf : ¬ (y < x) → Rn G μ Q (pc + 3) lv st sh I L R) : Rn G μ Q pc lv (mi y :: mi x :: st) sh I L R :=
  r_ic_gt (M := (I, L, R)) hd ht h0 kt kf
theorem x_ic_le {x y : Int} {off : Int} {tgt : Nat} (hd : decode μ.cc pc = .ok (.if_icmp .le off, 3)) (ht : (pc : Int) + off = (tgt : Int)) (h0 : (-2147483648 ≤ x ∧ x ≤ 2147483647) ∧ -2147483648 ≤ y ∧ y ≤ 2147483647) (kt : x ≤ y → Rn G μ Q tgt lv st sh I L R) (kf : ¬ (x ≤ y) → Rn G μ Q (pc + 3) lv st sh I L R) : Rn G μ Q pc lv (mi y :: mi x :: st) sh I L R :=
  r_ic_le (M := (I, L, R)) hd ht h0 kt kf
theorem x_lc_eq {x y : Int} {off : Int} {tgt : Nat} (hd : decode μ.cc pc = .ok (.lcmp, 1)) (hd2 : decode μ.cc (pc + 1) = .ok (.ifCond .eq off, 3)) (ht : ((pc + 1 : Nat) : Int) + off = (tgt : Int)) (h0 : (-9223372036854775808 ≤ x ∧ x ≤ 9223372036854775807) ∧ -9223372036854775808 ≤ y ∧ y ≤ 9223372036854775807) (kt : x = y → Rn G μ Q tgt lv st sh I L R) (kf : ¬ (x = y) → Rn G μ Q (pc + 4) lv st sh I L R) : Rn G μ Q pc lv (ml y :: ml x :: st) sh I L R :=
  r_lc_eq (M := (I, L, R)) hd hd2 ht h0 kt kf
theorem x_lc_ne {x y : Int} {off : Int} {tgt : Nat} (hd : decode μ.cc pc = .ok (.lcmp, 1)) (hd2 : decode μ.cc (pc + 1) = .ok (.ifCond .ne off, 3)) (ht : ((pc + 1 : Nat) : Int) + off = (tgt : Int)) (h0 : (-9223372036854775808 ≤ x ∧ x ≤ 9223372036854775807) ∧ -9223372036854775808 ≤ y ∧ y ≤ 9223372036854775807) (kt : x ≠ y → Rn G μ Q tgt lv st sh I L R) (kf : x = y → Rn G μ Q (pc + 4) lv st sh I L R) : Rn G μ Q pc lv (ml y :: ml x :: st) sh I L R :=
  r_lc_ne (M := (I, L, R)) hd hd2 ht h0 kt kf
theorem x_lc_lt {x y : Int} {off : Int} {tgt : Nat} (hd : decode μ.cc pc = .ok (.lcmp, 1)) (hd2 : decode μ.cc (pc + 1) = .ok (.ifCond .lt off, 3)) (ht : ((pc + 1 : Nat) : Int) + off = (tgt : Int)) (h0 : (-9223372036854775808 ≤ x ∧ x ≤ 9223372036854775807) ∧ -9223372036854775808 ≤ y ∧ y ≤ 9223372036854775807) (kt : x < y → Rn G μ Q tgt lv st sh I L R) (kf : ¬ (x < y) → Rn G μ Q (pc + 4) lv st sh I L R) : Rn G μ Q pc lv (ml y :: ml x :: st) sh I L R :=
  r_lc_lt (M := (I, L, R)) hd hd2 ht h0 kt kf
theorem x_lc_ge {x y : Int} {off : Int} {tgt : Nat} (hd : decode μ.cc pc = .ok (.lcmp, 1)) (hd2 : decode μ.cc (pc + 1) = .ok (.ifCond .ge off, 3)) (ht : ((pc + 1 : Nat) : Int) + off = (tgt : Int)) (h0 : (-9223372036854775808 ≤ x ∧ x ≤ 9223372036854775807) ∧ -9223372036854775808 ≤ y ∧ y ≤ 9223372036854775807) (kt : y ≤ x → Rn G μ Q tgt lv st sh I L R) (kf : ¬ (y ≤ x) → Rn G μ Q (pc + 4) lv st sh I L R) : Rn G μ Q pc lv (ml y :: ml x :: st) sh I L R :=
  r_lc_ge (M := (I, L, R)) hd hd2 ht h0 kt kf
theorem x_lc_le {x y : Int} {off : Int} {tgt : Nat} (hd : decode μ.cc pc = .ok (.lcmp, 1)) (hd2 : decode μ.cc (pc + 1) = .ok (.ifCond .le off, 3)) (ht : ((pc + 1 : Nat) : Int) + off = (tgt : Int)) (h0 : (-9223372036854775808 ≤ x ∧ x ≤ 9223372036854775807) ∧ -9223372036854775808 ≤ y ∧ y ≤ 9223372036854775807) (kt : x ≤ y → Rn G μ Q tgt lv st sh I L R) (kf : ¬ (x ≤ y) → Rn G μ Q (pc + 4) lv st sh I L R) : Rn G μ Q pc lv (ml y :: ml x :: st) sh I L R :=
  r_lc_le (M := (I, L, R)) hd hd2 ht h0 kt kf
theorem x_tswIn {dflt lo hi : Int} {offs : Array Int} {len : Nat} {x off : Int} {tgt : Nat} (hd : decode μ.cc pc = .ok (.tableswitch dflt lo hi offs, len)) (h0 : -2147483648 ≤ x ∧ x ≤ 2147483647) (h1 : lo ≤ x ∧ x ≤ hi) (ho : offs[(x - lo).toNat]? = some off) (ht : (pc : Int) + off = (tgt : Int)) (k : Rn G μ Q tgt lv st sh I L R) : Rn G μ Q pc lv (mi x :: st) sh I L R :=
  r_tswIn (M := (I, L, R)) hd h0 h1 ho ht k
theorem x_tswOut {dflt lo hi : Int} {offs : Array Int} {len : Nat} {x : Int} {tgt : Nat} (hd : decode μ.cc pc = .ok (.tableswitch dflt lo hi offs, len)) (h0 : -2147483648 ≤ x ∧ x ≤ 2147483647) (h1 : x < lo ∨ hi < x) (ht : (pc : Int) + dflt = (tgt : Int)) (k : Rn G μ Q tgt lv st sh I L R) : Rn G μ Q pc lv (mi x :: st) sh I L R :=
  r_tswOut (M := (I, L, R)) hd h0 h1 ht k
theorem x_getI {idx c k a : Nat} {j : Int} (hd : decode μ.cc pc = .ok (.getfield idx, 3)) (hf : m_FL μ.y.cls idx c k j) (hc : sh[a]? = some (.inl c)) (hty : m_isI (m_fty c k) = true) (kk : Rn G μ Q (pc + 3) lv (mi (I a j) :: st) sh I L R) : Rn G μ Q pc lv (mr a :: st) sh I L R :=
  r_getI (M := (I, L, R)) hd hf hc hty kk
theorem x_getL {idx c k a : Nat} {j : Int} (hd : decode μ.cc pc = .ok (.getfield idx, 3)) (hf : m_FL μ.y.cls idx c k j) (hc : sh[a]? = some (.inl c)) (hty : m_fty c k = .long) (kk : Rn G μ Q (pc + 3) lv (ml (L a j) :: st) sh I L R) : Rn G μ Q pc lv (mr a :: st) sh I L R :=
  r_getL (M := (I, L, R)) hd hf hc hty kk
theorem x_getR {idx c k a r : Nat} {j : Int} (hd : decode μ.cc pc = .ok (.getfield idx, 3)) (hf : m_FL μ.y.cls idx c k j) (hc : sh[a]? = some (.inl c)) (hty : m_isR (m_fty c k) = true) (hv : R a j = some r) (kk : Rn G μ Q (pc + 3) lv (mr r :: st) sh I L R) : Rn G μ Q pc lv (mr a :: st) sh I L R :=
  r_getR (M := (I, L, R)) hd hf hc hty hv kk
theorem x_putI {idx c k a : Nat} {j x : Int} (hd : decode μ.cc pc = .ok (.putfield idx, 3)) (hf : m_FL μ.y.cls idx c k j) (hfw : m_FW μ c k = true) (hc : sh[a]? = some (.inl c)) (hty : m_fty c k = .int) (kk : Rn G μ Q (pc + 3) lv st sh (m_up I a j x) L R) : Rn G μ Q pc lv (mi x :: mr a :: st) sh I L R :=
  r_putI (M := (I, L, R)) hd hf hfw hc hty kk
theorem x_putZ {idx c k a : Nat} {j x : Int} (hd : decode μ.cc pc = .ok (.putfield idx, 3)) (hf : m_FL μ.y.cls idx c k j) (hfw : m_FW μ c k = true) (hc : sh[a]? = some (.inl c)) (hty : m_fty c k = .boolean) (hx : x = 0 ∨ x = 1) (kk : Rn G μ Q (pc + 3) lv st sh (m_up I a j x) L R) : Rn G μ Q pc lv (mi x :: mr a :: st) sh I L R :=
  r_putZ (M := (I, L, R)) hd hf hfw hc hty hx kk
theorem x_putL {idx c k a : Nat} {j x : Int} (hd : decode μ.cc pc = .ok (.putfield idx, 3)) (hf : m_FL μ.y.cls idx c k j) (hfw : m_FW μ c k = true) (hc : sh[a]? = some (.inl c)) (hty : m_fty c k = .long) (kk : Rn G μ Q (pc + 3) lv st sh I (m_up L a j x) R) : Rn G μ Q pc lv (ml x :: mr a :: st) sh I L R :=
  r_putL (M := (I, L, R)) hd hf hfw hc hty kk
theorem x_putR {idx c k a r : Nat} {j : Int} (hd : decode μ.cc pc = .ok (.putfield idx, 3)) (hf : m_FL μ.y.cls idx c k j) (hfw : m_FW μ c k = true) (hc : sh[a]? = some (.inl c)) (hty : m_isR (m_fty c k) = true) (kk : Rn G μ Q (pc + 3) lv st sh I L (m_up R a j (some r))) : Rn G μ Q pc lv (mr r :: mr a :: st) sh I L R :=
  r_putR (M := (I, L, R)) hd hf hfw hc hty kk
theorem x_iald {a n : Nat} {i : Int} (hd : decode μ.cc pc = .ok (.iaload, 1)) (hc : sh[a]? = some (.inr (0, n))) (hi : 0 ≤ i ∧ i < n ∧ i ≤ 2147483647) (kk : Rn G μ Q (pc + 1) lv (mi (I a i) :: st) sh I L R) : Rn G μ Q pc lv (mi i :: mr a :: st) sh I L R :=
  r_iald (M := (I, L, R)) hd hc hi kk
theorem x_lald {a n : Nat} {i : Int} (hd : decode μ.cc pc = .ok (.laload, 1)) (hc : sh[a]? = some (.inr (1, n))) (hi : 0 ≤ i ∧ i < n ∧ i ≤ 2147483647) (kk : Rn G μ Q (pc + 1) lv (ml (L a i) :: st) sh I L R) : Rn G μ Q pc lv (mi i :: mr a :: st) sh I L R :=
  r_lald (M := (I, L, R)) hd hc hi kk
theorem x_aald {a n r : Nat} {i : Int} (hd : decode μ.cc pc = .ok (.aaload, 1)) (hc : sh[a]? = some (.inr (3, n))) (hi : 0 ≤ i ∧ i < n ∧ i ≤ 2147483647) (hv : R a i = some r) (kk : Rn G μ Q (pc + 1) lv (mr r :: st) sh I L R) : Rn G μ Q pc lv (mi i :: mr a :: st) sh I L R :=
  r_aald (M := (I, L, R)) hd hc hi hv kk
theorem x_alen {a kd n : Nat} {j : Int} (hd : decode μ.cc pc = .ok (.arraylength, 1)) (hc : sh[a]? = some (.inr (kd, n))) (hn : ((n : Nat) : Int) = j) (kk : Rn G μ Q (pc + 1) lv (mi j :: st) sh I L R) : Rn G μ Q pc lv (mr a :: st) sh I L R :=
  r_alen (M := (I, L, R)) hd hc hn kk
theorem x_iast {a n : Nat} {i x : Int} (hd : decode μ.cc pc = .ok (.iastore, 1)) (hc : sh[a]? = some (.inr (0, n))) (hi : 0 ≤ i ∧ i < n ∧ i ≤ 2147483647) (kk : Rn G μ Q (pc + 1) lv st sh (m_up I a i x) L R) : Rn G μ Q pc lv (mi x :: mi i :: mr a :: st) sh I L R :=
  r_iast (M := (I, L, R)) hd hc hi kk
theorem x_last {a n : Nat} {i x : Int} (hd : decode μ.cc pc = .ok (.lastore, 1)) (hc : sh[a]? = some (.inr (1, n))) (hi : 0 ≤ i ∧ i < n ∧ i ≤ 2147483647) (kk : Rn G μ Q (pc + 1) lv st sh I (m_up L a i x) R) : Rn G μ Q pc lv (ml x :: mi i :: mr a :: st) sh I L R :=
  r_last (M := (I, L, R)) hd hc hi kk
theorem x_iret {x : Int} (hd : decode μ.cc pc = .ok (.ireturn, 1)) (hr : μ.ret = some .int) (q : Q (some (mi x)) I L R) : Rn G μ Q pc lv [mi x] sh I L R :=
  r_iret (M := (I, L, R)) hd hr ⟨Nat.zero_le _, Nat.zero_le _⟩ ⟨rfl, q⟩
theorem x_zret {x : Int} (hd : decode μ.cc pc = .ok (.ireturn, 1)) (hr : μ.ret = some .boolean) (hx : x = 0 ∨ x = 1) (q : Q (some (mi x)) I L R) : Rn G μ Q pc lv [mi x] sh I L R :=
  r_zret (M := (I, L, R)) hd hr hx ⟨Nat.zero_le _, Nat.zero_le _⟩ ⟨rfl, q⟩
theorem x_lret {x : Int} (hd : decode μ.cc pc = .ok (.lreturn, 1)) (hr : μ.ret = some .long) (q : Q (some (ml x)) I L R) : Rn G μ Q pc lv [ml x] sh I L R :=
  r_lret (M := (I, L, R)) hd hr ⟨Nat.zero_le _, Nat.zero_le _⟩ ⟨rfl, q⟩
theorem x_vret (hd : decode μ.cc pc = .ok (.return_, 1)) (hr : μ.ret = none) (q : Q none I L R) : Rn G μ Q pc lv [] sh I L R :=
  r_vret (M := (I, L, R)) hd hr ⟨Nat.zero_le _, Nat.zero_le _⟩ ⟨rfl, q⟩
theorem x_imax {idx : Nat} {x y : Int} (hd : decode μ.cc pc = .ok (.invokestatic idx, 3)) (hw : Cond.methodLink μ.y.cls idx Lib.Math.max.name ∈ m_tbl ∧ Cond.static Lib.Math.max.name ∈ m_tbl ∧ Cond.initialized "java/lang/Math" ∈ m_tbl ∧ Cond.code Lib.Math.max.name Lib.Math.max.code 2 (some .int) ∈ m_tbl) (hr : (Nat.ble 1 μ.fr && Nat.ble (m_wid st + 13) μ.lo) = true) (h0 : (-2147483648 ≤ x ∧ x ≤ 2147483647) ∧ -2147483648 ≤ y ∧ y ≤ 2147483647) (k : Rn G μ Q (pc + 3) lv (mi (max x y) :: st) sh I L R) : Rn G μ Q pc lv (mi y :: mi x :: st) sh I L R :=
  r_imax (M := (I, L, R)) hd hw hr ⟨Nat.zero_le _, Nat.zero_le _⟩ h0 k
theorem x_imin {idx : Nat} {x y : Int} (hd : decode μ.cc pc = .ok (.invokestatic idx, 3)) (hw : Cond.methodLink μ.y.cls idx Lib.Math.min.name ∈ m_tbl ∧ Cond.static Lib.Math.min.name ∈ m_tbl ∧ Cond.initialized "java/lang/Math" ∈ m_tbl ∧ Cond.code Lib.Math.min.name Lib.Math.min.code 2 (some .int) ∈ m_tbl) (hr : (Nat.ble 1 μ.fr && Nat.ble (m_wid st + 13) μ.lo) = true) (h0 : (-2147483648 ≤ x ∧ x ≤ 2147483647) ∧ -2147483648 ≤ y ∧ y ≤ 2147483647) (k : Rn G μ Q (pc + 3) lv (mi (min x y) :: st) sh I L R) : Rn G μ Q pc lv (mi y :: mi x :: st) sh I L R :=
  r_imin (M := (I, L, R)) hd hw hr ⟨Nat.zero_le _, Nat.zero_le _⟩ h0 k
theorem x_lmax {idx : Nat} {x y : Int} (hd : decode μ.cc pc = .ok (.invokestatic idx, 3)) (hw : Cond.methodLink μ.y.cls idx Lib.MathLoose.max_long.x ∈ m_tbl ∧ Cond.static Lib.MathLoose.max_long.x ∈ m_tbl ∧ Cond.initialized "java/lang/Math" ∈ m_tbl ∧ Cond.code Lib.MathLoose.max_long.x Lib.MathLoose.max_long.code 4 (some .long) ∈ m_tbl) (hr : (Nat.ble 1 μ.fr && Nat.ble (m_wid st + 15) μ.lo) = true) (h0 : (-9223372036854775808 ≤ x ∧ x ≤ 9223372036854775807) ∧ -9223372036854775808 ≤ y ∧ y ≤ 9223372036854775807) (k : Rn G μ Q (pc + 3) lv (ml (max x y) :: st) sh I L R) : Rn G μ Q pc lv (ml y :: ml x :: st) sh I L R :=
  r_lmax (M := (I, L, R)) hd hw hr ⟨Nat.zero_le _, Nat.zero_le _⟩ h0 k
theorem x_lmin {idx : Nat} {x y : Int} (hd : decode μ.cc pc = .ok (.invokestatic idx, 3)) (hw : Cond.methodLink μ.y.cls idx Lib.MathLoose.min_long.x ∈ m_tbl ∧ Cond.static Lib.MathLoose.min_long.x ∈ m_tbl ∧ Cond.initialized "java/lang/Math" ∈ m_tbl ∧ Cond.code Lib.MathLoose.min_long.x Lib.MathLoose.min_long.code 4 (some .long) ∈ m_tbl) (hr : (Nat.ble 1 μ.fr && Nat.ble (m_wid st + 15) μ.lo) = true) (h0 : (-9223372036854775808 ≤ x ∧ x ≤ 9223372036854775807) ∧ -9223372036854775808 ≤ y ∧ y ≤ 9223372036854775807) (k : Rn G μ Q (pc + 3) lv (ml (min x y) :: st) sh I L R) : Rn G μ Q pc lv (ml y :: ml x :: st) sh I L R :=
  r_lmin (M := (I, L, R)) hd hw hr ⟨Nat.zero_le _, Nat.zero_le _⟩ h0 k
theorem x_callVi {idx a ci n : Nat} {μ' : MT} {as st0 : List MV} {q : vw_C} {q' : Int → MI → MI → MR → Prop} (hd : decode μ.cc pc = .ok (.invokevirtual idx, 3)) (hk : m_LV μ.y.cls idx μ' n) (hroom : m_room μ μ' = true) (hc : sh[a]? = some (.inl ci)) (hq : vwCl[ci]? = some q) (hqc : q.1 = μ'.y.cls) (hst : st0 = as.reverse ++ mr a :: st) (hn : as.length = n) (hw : Nat.ble (m_wid st) 8 = true) (h0 : μ'.mc = 0 ∧ μ'.ms = 0) (hs : Sp G μ' (mr a :: as) sh I L R (qi q'))
    (kk : ∀ (z : Int) (I' L' : MI) (R' : MR), q' z I' L' R' → Rn G μ Q (pc + 3) lv (mi z :: st) sh I' L' R') : Rn G μ Q pc lv st0 sh I L R := by
  refine r_callV hd hk hroom hs hc hq hqc hst hn hw (by rw [h0.1, h0.2]; exact ⟨Nat.zero_le _, Nat.zero_le _⟩) ?_
  rintro v sh' M' ⟨rfl, z, rfl, hq'⟩
  have k := kk z M'.1 M'.2.1 M'.2.2 hq'
  rw [h0.1, h0.2]
  exact k
theorem x_callVl {idx a ci n : Nat} {μ' : MT} {as st0 : List MV} {q : vw_C} {q' : Int → MI → MI → MR → Prop} (hd : decode μ.cc pc = .ok (.invokevirtual idx, 3)) (hk : m_LV μ.y.cls idx μ' n) (hroom : m_room μ μ' = true) (hc : sh[a]? = some (.inl ci)) (hq : vwCl[ci]? = some q) (hqc : q.1 = μ'.y.cls) (hst : st0 = as.reverse ++ mr a :: st) (hn : as.length = n) (hw : Nat.ble (m_wid st) 8 = true) (h0 : μ'.mc = 0 ∧ μ'.ms = 0) (hs : Sp G μ' (mr a :: as) sh I L R (ql q'))
    (kk : ∀ (z : Int) (I' L' : MI) (R' : MR), q' z I' L' R' → Rn G μ Q (pc + 3) lv (ml z :: st) sh I' L' R') : Rn G μ Q pc lv st0 sh I L R := by
  refine r_callV hd hk hroom hs hc hq hqc hst hn hw (by rw [h0.1, h0.2]; exact ⟨Nat.zero_le _, Nat.zero_le _⟩) ?_
  rintro v sh' M' ⟨rfl, z, rfl, hq'⟩
  have k := kk z M'.1 M'.2.1 M'.2.2 hq'
  rw [h0.1, h0.2]
  exact k
theorem x_callVv {idx a ci n : Nat} {μ' : MT} {as st0 : List MV} {q : vw_C} {q' : MI → MI → MR → Prop} (hd : decode μ.cc pc = .ok (.invokevirtual idx, 3)) (hk : m_LV μ.y.cls idx μ' n) (hroom : m_room μ μ' = true) (hc : sh[a]? = some (.inl ci)) (hq : vwCl[ci]? = some q) (hqc : q.1 = μ'.y.cls) (hst : st0 = as.reverse ++ mr a :: st) (hn : as.length = n) (hw : Nat.ble (m_wid st) 8 = true) (h0 : μ'.mc = 0 ∧ μ'.ms = 0) (hs : Sp G μ' (mr a :: as) sh I L R (qv q'))
    (kk : ∀ (I' L' : MI) (R' : MR), q' I' L' R' → Rn G μ Q (pc + 3) lv (st) sh I' L' R') : Rn G μ Q pc lv st0 sh I L R := by
  refine r_callV hd hk hroom hs hc hq hqc hst hn hw (by rw [h0.1, h0.2]; exact ⟨Nat.zero_le _, Nat.zero_le _⟩) ?_
  rintro v sh' M' ⟨rfl, rfl, hq'⟩
  have k := kk M'.1 M'.2.1 M'.2.2 hq'
  rw [h0.1, h0.2]
  exact k
theorem x_callSi {idx n : Nat} {μ' : MT} {as st0 : List MV} {q' : Int → MI → MI → MR → Prop} (hd : decode μ.cc pc = .ok (.invokestatic idx, 3)) (hk : m_LS μ.y.cls idx μ' n) (hroom : m_room μ μ' = true) (hst : st0 = as.reverse ++ st) (hn : as.length = n) (hw : Nat.ble (m_wid st) 8 = true) (h0 : μ'.mc = 0 ∧ μ'.ms = 0) (hs : Sp G μ' as sh I L R (qi q'))
    (kk : ∀ (z : Int) (I' L' : MI) (R' : MR), q' z I' L' R' → Rn G μ Q (pc + 3) lv (mi z :: st) sh I' L' R') : Rn G μ Q pc lv st0 sh I L R := by
  refine r_callS hd hk hroom hs hst hn hw (by rw [h0.1, h0.2]; exact ⟨Nat.zero_le _, Nat.zero_le _⟩) ?_
  rintro v sh' M' ⟨rfl, z, rfl, hq'⟩
  have k := kk z M'.1 M'.2.1 M'.2.2 hq'
  rw [h0.1, h0.2]
  exact k
theorem x_callSl {idx n : Nat} {μ' : MT} {as st0 : List MV} {q' : Int → MI → MI → MR → Prop} (hd : decode μ.cc pc = .ok (.invokestatic idx, 3)) (hk : m_LS μ.y.cls idx μ' n) (hroom : m_room μ μ' = true) (hst : st0 = as.reverse ++ st) (hn : as.length = n) (hw : Nat.ble (m_wid st) 8 = true) (h0 : μ'.mc = 0 ∧ μ'.ms = 0) (hs : Sp G μ' as sh I L R (ql q'))
    (kk : ∀ (z : Int) (I' L' : MI) (R' : MR), q' z I' L' R' → Rn G μ Q (pc + 3) lv (ml z :: st) sh I' L' R') : Rn G μ Q pc lv st0 sh I L R := by
  refine r_callS hd hk hroom hs hst hn hw (by rw [h0.1, h0.2]; exact ⟨Nat.zero_le _, Nat.zero_le _⟩) ?_
  rintro v sh' M' ⟨rfl, z, rfl, hq'⟩
  have k := kk z M'.1 M'.2.1 M'.2.2 hq'
  rw [h0.1, h0.2]
  exact k
theorem x_callNi {idx n : Nat} {μ' : MT} {as st0 : List MV} {q' : Int → MI → MI → MR → Prop} (hd : decode μ.cc pc = .ok (.invokestatic idx, 3)) (hk : m_LN μ.y.cls idx μ' n) (hroom : m_room μ μ' = true) (hst : st0 = as.reverse ++ st) (hn : as.length = n) (hw : Nat.ble (m_wid st) 8 = true) (h0 : μ'.mc = 0 ∧ μ'.ms = 0) (hs : Sp G μ' as sh I L R (qi q'))
    (kk : ∀ (z : Int) (I' L' : MI) (R' : MR), q' z I' L' R' → Rn G μ Q (pc + 3) lv (mi z :: st) sh I' L' R') : Rn G μ Q pc lv st0 sh I L R := by
  refine r_callN hd hk hroom hs hst hn hw (by rw [h0.1, h0.2]; exact ⟨Nat.zero_le _, Nat.zero_le _⟩) ?_
  rintro v sh' M' ⟨rfl, z, rfl, hq'⟩
  have k := kk z M'.1 M'.2.1 M'.2.2 hq'
  rw [h0.1, h0.2]
  exact k
theorem x_callNl {idx n : Nat} {μ' : MT} {as st0 : List MV} {q' : Int → MI → MI → MR → Prop} (hd : decode μ.cc pc = .ok (.invokestatic idx, 3)) (hk : m_LN μ.y.cls idx μ' n) (hroom : m_room μ μ' = true) (hst : st0 = as.reverse ++ st) (hn : as.length = n) (hw : Nat.ble (m_wid st) 8 = true) (h0 : μ'.mc = 0 ∧ μ'.ms = 0) (hs : Sp G μ' as sh I L R (ql q'))
    (kk : ∀ (z : Int) (I' L' : MI) (R' : MR), q' z I' L' R' → Rn G μ Q (pc + 3) lv (ml z :: st) sh I' L' R') : Rn G μ Q pc lv st0 sh I L R := by
  refine r_callN hd hk hroom hs hst hn hw (by rw [h0.1, h0.2]; exact ⟨Nat.zero_le _, Nat.zero_le _⟩) ?_
  rintro v sh' M' ⟨rfl, z, rfl, hq'⟩
  have k := kk z M'.1 M'.2.1 M'.2.2 hq'
  rw [h0.1, h0.2]
  exact k
end

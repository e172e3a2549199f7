/-! THE REFERENCE'S QUESTIONS, part two: values that go on from minute to minute. -/
def swC (f : Nat → (Nat → Int) → (Nat → Int)) : Nat → (Nat → Int) → (Nat → Int)
  | 0, W => W
  | c + 1, W => f c (swC f c W)
def swS (V : Nat → Int) (f : Nat → Nat → (Nat → Int) → (Nat → Int)) (m : Nat → Nat) : Nat → (Nat → Int) → (Nat → Int)
  | 0, W => W
  | s + 1, W => if 0 ≤ V s then swC (f s) (m s) (swS V f m s W) else swS V f m s W
theorem swS_t {V : Nat → Int} {f : Nat → Nat → (Nat → Int) → (Nat → Int)} {m : Nat → Nat} {s : Nat} {W : Nat → Int} (h : 0 ≤ V s) : swS V f m (s + 1) W = swC (f s) (m s) (swS V f m s W) := if_pos h
theorem swS_f {V : Nat → Int} {f : Nat → Nat → (Nat → Int) → (Nat → Int)} {m : Nat → Nat} {s : Nat} {W : Nat → Int} (h : ¬ 0 ≤ V s) : swS V f m (s + 1) W = swS V f m s W := if_neg h
def gF (κ : MI) (t s c : Nat) (W : Nat → Int) : Nat → Int := if vld κ t s c && alv κ (t + 1) (nxt κ t s c) then upn W (nxt κ t s c) 0 else W
def gW (κ : MI) (t : Nat) (V : Nat → Int) : Nat → Int := swS V (gF κ t) (fun s => mal κ t s) (nst κ) (fun _ => -1)
def anv (V : Nat → Int) : Nat → Bool
  | 0 => false
  | s + 1 => anv V s || decide (0 ≤ V s)
def bgV (κ : MI) (v : Int) (s : Nat) : Int := if alv κ 0 s then v else -1
def cmf (w o : Nat) (V : Nat → Int) (s : Nat) : Int := if rm s w = rm s o then -1 else V s
def cmV (κ : MI) (w o : Nat) : Nat → Nat → Int
  | 0 => cmf w o (bgV κ 0)
  | t + 1 => cmf w o (gW κ t (cmV κ w o t))
def emN (κ : MI) (t : Nat) : Nat → Int := orf (fun r => if moF κ r t (nst κ) = 0 then z_shl 1 (r : Int) else 0)
def emS (κ : MI) (t : Nat) : Nat → Int := orf (fun r => if 0 < fiF κ r t (nst κ) then z_shl 1 (r : Int) else 0)
noncomputable def s_empty (t : Int) (I : MI) : Int × MI := if t < 0 ∨ I 0 14 < t then (-1, I) else if okA I = false then (-3, a_mt I 4) else (emN (kap I 0 (I 0 13)) t.toNat (I 0 11).toNat, a_tl I (emS (kap I 0 (I 0 13)) t.toNat (I 0 11).toNat))
def whF (κ : MI) (w t : Nat) : Nat → Int := orf (fun s => if alv κ t s then z_shl 1 (rm s w : Int) else 0)
noncomputable def s_where (w t : Int) (I : MI) : Int × MI := if w < 0 ∨ I 0 13 ≤ w ∨ t < 0 ∨ I 0 14 < t then (-1, I) else if okA I = false then (-3, a_mt I 4) else (whF (kap I 0 (I 0 13)) w.toNat t.toNat (nst (kap I 0 (I 0 13))), I)
section
variable {G : GT} {sh : MS} {I L : MI} {R : MR} {κ : MI}
end

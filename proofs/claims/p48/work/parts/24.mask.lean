/-! THE REFERENCE'S QUESTIONS, part six: who meets, who stands. -/
/-- how long one has stood behind a choice of moves -/
def stv (κ : MI) (w t s c : Nat) (V : Nat → Int) : Int := if mvd κ t s c w < 0 then V s + 1 else 0
def stF (κ : MI) (w : Nat) (n : Int) (l : Bool) (t : Nat) (V : Nat → Int) (s c : Nat) (W : Nat → Int) : Nat → Int :=
  if (vld κ t s c && alv κ (t + 1) (nxt κ t s c)) = true ∧ (W (nxt κ t s c) < 0 ∨ (if l = true then stv κ w t s c V < W (nxt κ t s c) else W (nxt κ t s c) < stv κ w t s c V)) ∧ ¬ (l = true ∧ n ≤ stv κ w t s c V) then upn W (nxt κ t s c) (stv κ w t s c V) else W
def stC (κ : MI) (w : Nat) (n : Int) (t : Nat) (V : Nat → Int) (s : Nat) (r : Bool) : Nat → Bool
  | 0 => r
  | c + 1 => stC κ w n t V s r c || ((vld κ t s c && alv κ (t + 1) (nxt κ t s c)) && decide (n ≤ stv κ w t s c V))
def stS (κ : MI) (w : Nat) (n : Int) (t : Nat) (V : Nat → Int) (r : Bool) : Nat → Bool
  | 0 => r
  | s + 1 => if 0 ≤ V s then stC κ w n t V s (stS κ w n t V r s) (mal κ t s) else stS κ w n t V r s
def stV (κ : MI) (w : Nat) (n : Int) (l : Bool) : Nat → Nat → Int
  | 0 => bgV κ 0
  | t + 1 => swS (stV κ w n l t) (stF κ w n l t (stV κ w n l t)) (fun s => mal κ t s) (nst κ) (fun _ => -1)
def stR (κ : MI) (w : Nat) (n : Int) (l : Bool) : Nat → Bool
  | 0 => false
  | t + 1 => stS κ w n t (stV κ w n l t) (stR κ w n l t) (nst κ)
def stA (κ : MI) (w : Nat) (n : Int) (l : Bool) : Bool := if l = true then anv (stV κ w n l (lst κ)) (nst κ) else stR κ w n l (lst κ)
theorem ite_or {α : Type} {c : Prop} [Decidable c] (a b : α) : (if c then a else b) = a ∨ (if c then a else b) = b := by
  split
  · exact Or.inl rfl
  · exact Or.inr rfl
theorem swC_rb {b : Int} {f : Nat → (Nat → Int) → (Nat → Int)} (hf : ∀ c W, (∀ s, -1 ≤ W s ∧ W s ≤ b) → ∀ x, -1 ≤ f c W x ∧ f c W x ≤ b) : ∀ (c : Nat) (W : Nat → Int), (∀ s, -1 ≤ W s ∧ W s ≤ b) → ∀ x, -1 ≤ swC f c W x ∧ swC f c W x ≤ b
  | 0, W, h => h
  | c + 1, W, h => hf c _ (swC_rb hf c W h)
theorem swS_rb {b : Int} {V : Nat → Int} {f : Nat → Nat → (Nat → Int) → (Nat → Int)} {m : Nat → Nat} (hf : ∀ s c W, (∀ s, -1 ≤ W s ∧ W s ≤ b) → ∀ x, -1 ≤ f s c W x ∧ f s c W x ≤ b) : ∀ (n : Nat) (W : Nat → Int), (∀ s, -1 ≤ W s ∧ W s ≤ b) → ∀ x, -1 ≤ swS V f m n W x ∧ swS V f m n W x ≤ b
  | 0, W, h => h
  | n + 1, W, h => by
    unfold swS
    split
    · exact swC_rb (hf n) _ _ (swS_rb hf n W h)
    · exact swS_rb hf n W h
noncomputable def s_still (w n : Int) (I : MI) : Int × MI := if w < 0 ∨ I 0 13 ≤ w ∨ n < 1 ∨ 30 < n then (-1, I) else if okA I = false then (-3, a_mt I 4)
  else (if stA (kap I 0 (I 0 13)) w.toNat n false = false then 0 else if stA (kap I 0 (I 0 13)) w.toNat n true = true then 1 else 2, I)
section
variable {G : GT} {sh : MS} {I L : MI} {R : MR} {κ : MI}
end

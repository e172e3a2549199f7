/-! THE REFERENCE'S QUESTIONS, part seven: who passes, who is there. -/
def foC {α : Type} (p : Nat → Bool) (f : Nat → α → α) : Nat → α → α
  | 0, x => x
  | c + 1, x => if p c then f c (foC p f c x) else foC p f c x
theorem foC_t {α : Type} {p : Nat → Bool} {f : Nat → α → α} {c : Nat} {x : α} (h : p c = true) : foC p f (c + 1) x = f c (foC p f c x) := if_pos h
theorem foC_f {α : Type} {p : Nat → Bool} {f : Nat → α → α} {c : Nat} {x : α} (h : ¬ p c = true) : foC p f (c + 1) x = foC p f c x := if_neg h
def paQ (κ : MI) (t s c : Nat) : Bool := vld κ t s c && alv κ (t + 1) (nxt κ t s c)
def paF {α : Type} (κ : MI) (t : Nat) (f : Nat → Nat → α → α) (n : Nat) (x : α) : α := foC (fun s => alv κ t s) (fun s x => foC (paQ κ t s) (f s) (mal κ t s) x) n x
def pst (κ : MI) (d : Int) (t s c : Nat) : Int := orf (fun w => if mvd κ t s c w = d then z_shl 1 (w : Int) else 0) (us κ)
def pMay (κ : MI) (d : Int) (t : Nat) (n : Nat) : Int := paF κ t (fun s c x => z_or x (pst κ d t s c)) n 0
def pMus (κ : MI) (d : Int) (t : Nat) (n : Nat) : Int := paF κ t (fun s c x => z_and x (pst κ d t s c)) n (z_shl 1 (κ 0 34) - 1)
def pAny (κ : MI) (d : Int) (t : Nat) (n : Nat) : Bool := paF κ t (fun s c b => b || decide (pst κ d t s c ≠ 0)) n false
def pAll (κ : MI) (d : Int) (t : Nat) (n : Nat) : Bool := paF κ t (fun s c b => b && decide (pst κ d t s c ≠ 0)) n true
def mnF (f : Nat → Bool) : Nat → Int
  | 0 => 0
  | t + 1 => mnF f t + (if f t then 1 else 0)
theorem mnF_r (f : Nat → Bool) : ∀ n : Nat, 0 ≤ mnF f n ∧ mnF f n ≤ n
  | 0 => by unfold mnF; omega
  | n + 1 => by have := mnF_r f n; unfold mnF; split <;> omega
def pmn (κ : MI) (d : Int) : Int := mnF (fun t => pAny κ d t (nst κ)) (lst κ)
def pmx (κ : MI) (d : Int) : Int := mnF (fun t => pAll κ d t (nst κ)) (lst κ)
def thF (κ : MI) : Nat → Int × Int
  | 0 => (-9, -1)
  | d + 1 => if ¬ κ 7 (3 * (d : Int) + 2) = 1 ∧ (thF κ d).2 < pmn κ d - pmx κ d then ((d : Int), pmn κ d - pmx κ d) else thF κ d
theorem thF_r {κ : MI} : ∀ n : Nat, -9 ≤ (thF κ n).1 ∧ (thF κ n).1 < n ∧ -1 ≤ (thF κ n).2 ∧ (thF κ n).2 ≤ lst κ
  | 0 => by unfold thF; simp
  | n + 1 => by
    have h1 := thF_r (κ := κ) n
    have h2 := mnF_r (fun t => pAny κ n t (nst κ)) (lst κ)
    have h3 := mnF_r (fun t => pAll κ n t (nst κ)) (lst κ)
    unfold thF pmn pmx
    split
    · simp only; omega
    · omega
noncomputable def s_passes (d : Int) (I : MI) : Int × MI := if d < 0 ∨ I 0 12 ≤ d then (-1, I) else if okA I = false then (-3, a_mt I 4) else (pmn (kap I 0 (I 0 13)) d, a_tl I (pmx (kap I 0 (I 0 13)) d))
noncomputable def s_third (I : MI) : Int × MI := if okA I = false then (-3, a_mt I 4) else if (thF (kap I 0 (I 0 13)) (I 0 12).toNat).1 = -9 then (-9, I) else ((thF (kap I 0 (I 0 13)) (I 0 12).toNat).1, a_tl I (thF (kap I 0 (I 0 13)) (I 0 12).toNat).2)
noncomputable def s_whose (e : Int) (I : MI) : Int × MI := if e < 0 ∨ I 0 25 ≤ e then (-1, I) else if ¬ I 11 (4 * e + 0) = 1 then (-3, a_mt I 3) else if okA I = false then (-3, a_mt I 4)
  else (pMay (kap I 0 (I 0 13)) (I 11 (4 * e + 1)) (I 11 (4 * e + 3)).toNat (nst (kap I 0 (I 0 13))), a_tl I (pMus (kap I 0 (I 0 13)) (I 11 (4 * e + 1)) (I 11 (4 * e + 3)).toNat (nst (kap I 0 (I 0 13)))))
def smS (κ : MI) (a : Int) (s : Nat) : Int := orf (fun w => if (rm s w : Int) = a then z_shl 1 (w : Int) else 0) (us κ)
def smMay (κ : MI) (a : Int) (t n : Nat) : Int := foC (fun s => alv κ t s) (fun s x => z_or x (smS κ a s)) n 0
def smMus (κ : MI) (a : Int) (t n : Nat) : Int := foC (fun s => alv κ t s) (fun s x => z_and x (smS κ a s)) n (z_shl 1 (κ 0 34) - 1)
noncomputable def s_same (e : Int) (I : MI) : Int × MI := if e < 0 ∨ I 0 25 ≤ e then (-1, I) else if ¬ (I 11 (4 * e + 0) = 2 ∨ I 11 (4 * e + 0) = 3) then (-3, a_mt I 3) else if okA I = false then (-3, a_mt I 4)
  else (smMay (kap I 0 (I 0 13)) (I 11 (4 * e + 1)) (I 11 (4 * e + 3)).toNat (nst (kap I 0 (I 0 13))), a_tl I (smMus (kap I 0 (I 0 13)) (I 11 (4 * e + 1)) (I 11 (4 * e + 3)).toNat (nst (kap I 0 (I 0 13)))))
/-- what holds of events of a kind -/
def iEvL (I : MI) : Prop := ∀ e : Int, 0 ≤ e → e < I 0 25 → ((I 11 (4 * e + 0) = 1 ∨ I 11 (4 * e + 0) = 5) → I 11 (4 * e + 1) < I 0 12 ∧ I 11 (4 * e + 3) < I 0 14) ∧ (I 11 (4 * e + 0) = 1 → I 7 (3 * I 11 (4 * e + 1) + 2) = 1) ∧ (I 11 (4 * e + 0) = 5 → I 11 (4 * e + 2) < I 0 14) ∧ ((I 11 (4 * e + 0) = 2 ∨ I 11 (4 * e + 0) = 3 ∨ I 11 (4 * e + 0) = 4) → I 11 (4 * e + 1) < I 0 11 ∧ I 11 (4 * e + 3) ≤ I 0 14) ∧ (I 11 (4 * e + 0) = 3 → I 11 (4 * e + 2) < I 0 13)
section
variable {G : GT} {sh : MS} {I L : MI} {R : MR} {κ : MI}
end

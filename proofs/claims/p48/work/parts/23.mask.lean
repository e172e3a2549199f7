def arF (κ : MI) (w o t : Nat) : Nat → Bool
  | 0 => false
  | s + 1 => arF κ w o t s || (alv κ t s && rm s w == rm s o)
def meF (κ : MI) (w o : Nat) : Nat → Nat → Int
  | 0, _ => -9
  | n + 1, t => if arF κ w o t (nst κ) then (t : Int) else meF κ w o n (t + 1)
theorem meF_r (κ : MI) (w o : Nat) : ∀ n t, meF κ w o n t = -9 ∨ (0 ≤ meF κ w o n t ∧ meF κ w o n t < (t : Int) + (n : Int))
  | 0, t => Or.inl rfl
  | n + 1, t => by
    unfold meF
    split
    · right; omega
    · have := meF_r κ w o n (t + 1); omega
noncomputable def s_met (w o : Int) (I : MI) : Int × MI := if w < 0 ∨ I 0 13 ≤ w ∨ o < 0 ∨ I 0 13 ≤ o ∨ w = o then (-1, I) else if okA I = false then (-3, a_mt I 4)
  else (if meF (kap I 0 (I 0 13)) w.toNat o.toNat (I 0 14 + 1).toNat 0 = -9 then 0 else if anv (cmV (kap I 0 (I 0 13)) w.toNat o.toNat (I 0 14).toNat) (nst (kap I 0 (I 0 13))) then 1 else 2, a_tl I (meF (kap I 0 (I 0 13)) w.toNat o.toNat (I 0 14 + 1).toNat 0))
section
variable {G : GT} {sh : MS} {I L : MI} {R : MR} {κ : MI}
end

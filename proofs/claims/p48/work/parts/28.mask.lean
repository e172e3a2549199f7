/-! THE REFERENCE'S QUESTIONS, part ten. -/
/-- a stuck board's scene -/
noncomputable def skK (I : MI) (d s : Int) : MI := m_up (m_up (kap I 0 (I 0 13)) 0 36 d) 0 37 s
noncomputable def skS (I : MI) (d : Int) : Nat → Int
  | 0 => -9
  | s + 1 => if fst0 (skK I d s) = -9 then 100 * d + s else skS I d s
noncomputable def skD (I : MI) : Nat → Nat → Int
  | 0, _ => -9
  | n + 1, d => if I 7 (3 * (d : Int) + 2) = 1 ∧ skS I d (I 0 14).toNat ≠ -9 then skS I d (I 0 14).toNat else skD I n (d + 1)
noncomputable def s_stuck (I : MI) : Int := if okA I = true then -4 else skD I (I 0 12).toNat 0
noncomputable def quW (I : MI) : Nat → Int
  | 0 => 0
  | e + 1 => z_or (quW I e) (if fst0 (kap I (z_or (quW I e) (z_shl 1 (e : Int))) (I 0 13)) ≠ -9 then z_shl 1 (e : Int) else 0)
noncomputable def s_quarrel (I : MI) : Int × (MI → MI) := if okA I = true then (-4, fun L => L) else (I 0 25 - pc (quW I (I 0 25).toNat), fun L => m_up L 0 3 (z_landl (z_shll 1 (I 0 25) - 1) (z_xor (quW I (I 0 25).toNat) (-1))))
theorem quW_b (I : MI) : ∀ n k : Nat, n ≤ 24 → n ≤ k → k < 32 → tb (quW I n) k = false
  | 0, k, _, _, _ => tb_0 k
  | n + 1, k, h0, h1, h2 => by
    unfold quW
    rw [tb_or, quW_b I n k (by omega) (by omega) h2]
    split
    · rw [tb_sh1 (by omega) h2]; simp; omega
    · rw [tb_0]; rfl
def wyB (κ : MI) (t s : Nat) : Int := if alv κ t s then Fr κ t s * Re κ t s else 0
def chS (κ : MI) (r : Int) (t : Nat) : Nat → Int
  | 0 => 0
  | s + 1 => chS κ r t s + (if 0 < mnI s r (us κ) then wyB κ t s else 0)
def lkS (κ : MI) (w t r : Nat) : Nat → Int
  | 0 => 0
  | s + 1 => lkS κ w t r s + (if rm s w = r then wyB κ t s else 0)
def lkB (f : Nat → Int) : Nat → Nat
  | 0 => 0
  | r + 1 => if f (lkB f r) < f (r + 1) then r + 1 else lkB f r
theorem lkB_r (f : Nat → Int) : ∀ n, lkB f n ≤ n
  | 0 => Nat.le_refl _
  | n + 1 => by have := lkB_r f n; unfold lkB; split <;> omega
/-- the counts are true ones: to be shown of every scene -/
def cntOK (κ : MI) : Prop := aw κ ≤ 1000000000000000 → 0 < aw κ ∧ ∀ t, t ≤ lst κ → (∀ r, 0 ≤ chS κ r t (nst κ) ∧ chS κ r t (nst κ) ≤ 1000000000000000) ∧ ∀ w r, 0 ≤ lkS κ w t r (nst κ) ∧ lkS κ w t r (nst κ) ≤ 1000000000000000
def frT (u l : Int) (L : MI) : MI := m_up (m_up L 0 4 (u.tdiv (a_gcd u l))) 0 5 (l.tdiv (a_gcd u l))
noncomputable def s_chance (r t : Int) (I : MI) : Int × MI := if r < 0 ∨ I 0 11 ≤ r ∨ t < 0 ∨ I 0 14 < t then (-1, I) else if okA I = false then (-3, a_mt I 4) else if 1000000000000000 < aw (kap I 0 (I 0 13)) then (-6, I) else (1, I)
noncomputable def l_chance (r t : Int) (I : MI) (L : MI) : MI := if r < 0 ∨ I 0 11 ≤ r ∨ t < 0 ∨ I 0 14 < t then L else if okA I = false then L else if 1000000000000000 < aw (kap I 0 (I 0 13)) then L else frT (chS (kap I 0 (I 0 13)) r t.toNat (nst (kap I 0 (I 0 13)))) (aw (kap I 0 (I 0 13))) L
noncomputable def s_likely (w t : Int) (I : MI) : Int × MI := if w < 0 ∨ I 0 13 ≤ w ∨ t < 0 ∨ I 0 14 < t then (-1, I) else if okA I = false then (-3, a_mt I 4) else if 1000000000000000 < aw (kap I 0 (I 0 13)) then (-6, I) else ((lkB (fun r => lkS (kap I 0 (I 0 13)) w.toNat t.toNat r (nst (kap I 0 (I 0 13)))) 5 : Nat), I)
noncomputable def l_likely (w t : Int) (I : MI) (L : MI) : MI := if w < 0 ∨ I 0 13 ≤ w ∨ t < 0 ∨ I 0 14 < t then L else if okA I = false then L else if 1000000000000000 < aw (kap I 0 (I 0 13)) then L else frT (lkS (kap I 0 (I 0 13)) w.toNat t.toNat (lkB (fun r => lkS (kap I 0 (I 0 13)) w.toNat t.toNat r (nst (kap I 0 (I 0 13)))) 5) (nst (kap I 0 (I 0 13)))) (aw (kap I 0 (I 0 13))) L
theorem seF_s {I : MI} {m f h : Int} (k : Nat) : seF I m f h (k + 1) = if chB I k m f ≠ -9 ∧ ((seF I m f h k).1 = -9 ∨ chB I k m f / 1000 + h * k < (seF I m f h k).2) then ((k : Int), chB I k m f / 1000 + h * k) else seF I m f h k := rfl
theorem seF_r {I : MI} (hH : iHs I) (hE : iEvs I) {m f h : Int} (hm : 0 ≤ m ∧ m ≤ 99) (hf : 0 ≤ f ∧ f ≤ 99) (hh : 0 ≤ h ∧ h ≤ 99) : ∀ n : Nat, (n : Int) ≤ I 0 13 + 1 → -9 ≤ (seF I m f h n).1 ∧ (seF I m f h n).1 < n ∧ 0 ≤ (seF I m f h n).2 ∧ (seF I m f h n).2 ≤ 100000
  | 0, _ => by unfold seF; simp
  | n + 1, hn => by
    have h1 := seF_r hH hE hm hf hh n (by omega)
    have hW := hH.2.2.1
    have h2 := chB_r hH hE (k := n) (m := m) (f := f) (by omega) hm hf
    have h3 : 0 ≤ h * (n : Int) ∧ h * (n : Int) ≤ 99 * 3 := ⟨Int.mul_nonneg hh.1 (by omega), Int.mul_le_mul hh.2 (by omega) (by omega) (by omega)⟩
    unfold seF
    split
    · simp only; omega
    · omega
section
variable {G : GT} {sh : MS} {I L : MI} {R : MR} {κ : MI}
end

def fgQ (B : Nat → Int) (lo hi : Int) (p : Nat) : Bool := decide ((0 ≤ B p - 48 ∧ B p - 48 ≤ 9) ∧ lo ≤ B p - 48 ∧ B p - 48 ≤ hi)
def dgt (B : Nat → Int) (p : Nat) : Bool := decide (48 ≤ B p ∧ B p ≤ 57)
def mnV (B : Nat → Int) (p : Nat) : Int := if dgt B p then (if dgt B (p + 1) then 10 * (B p - 48) + (B (p + 1) - 48) else B p - 48) else 0
def mnP (B : Nat → Int) (p : Nat) : Nat := if dgt B p then (if dgt B (p + 1) then p + 2 else p + 1) else p
def mnQ (B : Nat → Int) (lo hi : Int) (p : Nat) : Bool := dgt B p && decide (lo ≤ mnV B p ∧ mnV B p ≤ hi)
def skF (B : Nat → Int) : Nat → Nat → Nat
  | 0, p => p
  | n + 1, p => if B p = 32 then skF B n (p + 1) else p
def skp (B : Nat → Int) (p : Nat) : Nat := skF B 100 p
def dorP (B : Nat → Int) (R : Int) (nd p : Nat) : Bool × Nat × Int × Int :=
  if nd = 8 then (false, p, 0, 0) else if fgQ B 0 (R - 1) (p + 1) = false then (false, p + 1, 0, 0) else if B (p + 2) ≠ 45 then (false, p + 2, 0, 0)
  else if B (p + 3) = B (p + 1) ∨ fgQ B 0 (R - 1) (p + 3) = false then (false, p + 3, 0, 0)
  else (true, p + 4, (if B (p + 1) < B (p + 3) then B (p + 1) - 48 else B (p + 3) - 48), (if B (p + 1) < B (p + 3) then B (p + 3) - 48 else B (p + 1) - 48))
def risP (B : Nat → Int) (R : Int) : Nat → Nat → Int → Int → Bool × Nat × Int
  | 0, p, set, _ => (true, p, set)
  | n + 1, p, set, low => if dgt B p then (if fgQ B low (R - 1) p then risP B R n (p + 1) (z_or set (z_shl 1 (B p - 48))) (B p - 48 + 1) else (false, p, set)) else (true, p, set)
def wlkP (B : Nat → Int) (R : Int) (nw p : Nat) : Bool × Nat × Int × Int :=
  if nw = 3 then (false, p, 0, 0) else if fgQ B 1 2 (p + 1) = false then (false, p + 1, 0, 0) else if B (p + 2) ≠ 58 then (false, p + 2, 0, 0)
  else if B (p + 3) = 42 then (true, p + 4, B (p + 1) - 48, z_shl 1 R - 1)
  else ((risP B R 8 (p + 3) 0 0).1 && decide (0 < (risP B R 8 (p + 3) 0 0).2.2), (risP B R 8 (p + 3) 0 0).2.1, B (p + 1) - 48, (risP B R 8 (p + 3) 0 0).2.2)
/-- place, doors, walkers, last -/
abbrev HS : Type := Nat × List (Int × Int × Int) × List (Int × Int) × Int
def itmP (B : Nat → Int) (R : Int) (σ : HS) : Bool × HS :=
  if B σ.1 = 100 ∨ B σ.1 = 68 then ((dorP B R σ.2.1.length σ.1).1, (dorP B R σ.2.1.length σ.1).2.1, (if (dorP B R σ.2.1.length σ.1).1 then σ.2.1 ++ [((dorP B R σ.2.1.length σ.1).2.2.1, (dorP B R σ.2.1.length σ.1).2.2.2, if B σ.1 = 68 then 1 else 0)] else σ.2.1), σ.2.2)
  else if B σ.1 = 109 then (mnQ B 1 30 (σ.1 + 1), mnP B (σ.1 + 1), σ.2.1, σ.2.2.1, mnV B (σ.1 + 1))
  else if B σ.1 = 119 then ((wlkP B R σ.2.2.1.length σ.1).1, (wlkP B R σ.2.2.1.length σ.1).2.1, σ.2.1, (if (wlkP B R σ.2.2.1.length σ.1).1 then σ.2.2.1 ++ [((wlkP B R σ.2.2.1.length σ.1).2.2.1, (wlkP B R σ.2.2.1.length σ.1).2.2.2)] else σ.2.2.1), σ.2.2.2)
  else (false, σ)
def houL (B : Nat → Int) (R : Int) (n : Nat) : Nat → HS → Int × HS
  | 0, σ => (-9, σ)
  | k + 1, σ => if n ≤ σ.1 then (-9, σ) else if (itmP B R σ).1 then houL B R n k (skp B (itmP B R σ).2.1, (itmP B R σ).2.2) else (((itmP B R σ).2.1 : Int), (itmP B R σ).2)
/-- the fault of a house's text, its rooms, what was read -/
def houF (B : Nat → Int) (n : Nat) : Int × Int × HS :=
  if B (skp B 0) ≠ 114 then ((skp B 0 : Nat), 0, (0, [], [], 12)) else if fgQ B 1 6 (skp B 0 + 1) = false then ((skp B 0 + 1 : Nat), 0, (0, [], [], 12))
  else ((houL B (B (skp B 0 + 1) - 48) n 81 (skp B (skp B 0 + 2), [], [], 12)).1, B (skp B 0 + 1) - 48, (houL B (B (skp B 0 + 1) - 48) n 81 (skp B (skp B 0 + 2), [], [], 12)).2)
theorem fgQ_r {B : Nat → Int} {lo hi : Int} {p : Nat} (h : fgQ B lo hi p = true) : (48 ≤ B p ∧ B p ≤ 57) ∧ lo ≤ B p - 48 ∧ B p - 48 ≤ hi := by
  unfold fgQ at h
  rw [decide_eq_true_eq] at h
  omega
/-- text t holds the bytes B -/
def RT (t : Int) (B : Nat → Int) (J : MI) : Prop := iTexts J ∧ (0 ≤ t ∧ t ≤ 3) ∧ ∀ i : Nat, a_by J t i = B i
theorem RT.up {t : Int} {B : Nat → Int} {J : MI} (h : RT t B J) {c : Nat} (hc : c ≠ 5) (hc2 : c ≠ 6) (j v : Int) : RT t B (m_up J c j v) := by
  have e5 : ∀ x, m_up J c j v 5 x = J 5 x := fun x => m_up_ne (Ne.symm hc) x
  have e6 : ∀ x, m_up J c j v 6 x = J 6 x := fun x => m_up_ne (Ne.symm hc2) x
  refine ⟨?_, h.2.1, fun i => ?_⟩
  · unfold iTexts; simp only [e5, e6]; exact h.1
  · unfold a_by; rw [e5, e6]; exact h.2.2 i
theorem RT.r {t : Int} {B : Nat → Int} {J : MI} (h : RT t B J) (i : Nat) : -128 ≤ B i ∧ B i ≤ 127 := by
  have h1 := h.1.1 t h.2.1.1 h.2.1.2
  have h0 := h.2.1
  rw [← h.2.2 i]
  unfold a_by
  split
  · exact h.1.2 _ (by omega) (by omega)
  · omega
/-- the reference's places of reading -/
def rsc (c : Nat) (j : Int) : Prop := c = 9 ∨ c = 10 ∨ c = 12 ∨ (c = 0 ∧ ((17 ≤ j ∧ j ≤ 22) ∨ j = 27))
def RE (I I' : MI) : Prop := ∀ c j, ¬ rsc c j → I' c j = I c j
theorem RE.rf (I : MI) : RE I I := fun _ _ _ => rfl
theorem RE.tr {I J K : MI} (h : RE I J) (k : RE J K) : RE I K := fun c j q => (k c j q).trans (h c j q)
theorem RE.up {I I' : MI} {c : Nat} {j v : Int} (h : RE I I') (hs : rsc c j) : RE I (m_up I' c j v) := fun a i q => by
  unfold m_up
  by_cases e : a = c ∧ i = j
  · obtain ⟨rfl, rfl⟩ := e; exact absurd hs q
  · rw [if_neg e]; exact h a i q
section
variable {G : GT} {sh : MS} {I L : MI} {R : MR} {κ : MI} {t : Int} {B : Nat → Int}
end

theorem Pe.set {I I' : MI} (h : Pe I I') (c : Nat) (j v : Int) : Pe (m_up I c j v) (m_up I' c j v) := fun a i q => by
  unfold m_up
  split
  · rfl
  · exact h a i q
noncomputable def okA (I : MI) : Bool := gd I 0 (I 0 13) && fst0 (kap I 0 (I 0 13)) == -9
/-- only the two tables change -/
def LF (L L' : MI) : Prop := ∀ a j, a ≠ 22 → a ≠ 23 → L' a j = L a j
theorem LF.rf (L : MI) : LF L L := fun _ _ _ _ => rfl
theorem LF.tr {I J K : MI} (h : LF I J) (k : LF J K) : LF I K := fun c j p q => (k c j p q).trans (h c j p q)
theorem KA_lst {I : MI} (h : iHs I) {wo k : Int} : (lst (kap I wo k) : Int) = I 0 14 := by
  have := h.2.2.2.1
  unfold lst
  rw [kap_per (by unfold per; omega)]
  omega
theorem KA_us {I : MI} (h : iHs I) : (us (kap I 0 (I 0 13)) : Int) = I 0 13 := by
  have := h.2.2.1
  rw [kap_us]
  omega
theorem okA_iff {I : MI} : okA I = true ↔ gd I 0 (I 0 13) = true ∧ fst0 (kap I 0 (I 0 13)) = -9 := by unfold okA; rw [Bool.and_eq_true, beq_iff_eq]
theorem fst0_r (κ : MI) : ∀ n t, fsF κ t n = -9 ∨ (0 ≤ fsF κ t n ∧ fsF κ t n < (t : Int) + (n : Int))
  | 0, t => Or.inl rfl
  | n + 1, t => by
    unfold fsF
    split
    · have := fst0_r κ n (t + 1); omega
    · right; omega
noncomputable def s_could (I : MI) : Int × MI := if fst0 (kap I 0 (I 0 13)) = -9 then (1, I) else (0, a_tl I (fst0 (kap I 0 (I 0 13))))
noncomputable def fwF (I : MI) : Nat → Nat → Int
  | 0, _ => -9
  | n + 1, k => if gd I 0 k = true ∧ fst0 (kap I 0 k) = -9 then (k : Int) else fwF I n (k + 1)
def awF (κ : MI) : Nat → Int
  | 0 => 0
  | s + 1 => mor (awF κ s) (Fr κ (lst κ) s)
theorem awF_r (κ : MI) : ∀ n, 0 ≤ awF κ n ∧ awF κ n ≤ 1000000000000001
  | 0 => by unfold awF; omega
  | n + 1 => by unfold awF; exact mor_r (awF_r κ n) (Fr_r κ _ _)
def aw (κ : MI) : Int := awF κ (nst κ)
noncomputable def s_ways (I : MI) : Int × (MI → MI) := if fst0 (kap I 0 (I 0 13)) ≠ -9 then (0, fun L => m_up L 0 3 0) else if 1000000000000000 < aw (kap I 0 (I 0 13)) then (-6, fun L => L) else (1, fun L => m_up L 0 3 (aw (kap I 0 (I 0 13))))
def mnI (s : Nat) (r : Int) : Nat → Int
  | 0 => 0
  | w + 1 => mnI s r w + (if (rm s w : Int) = r then 1 else 0)
theorem mnI_r (s : Nat) (r : Int) : ∀ n : Nat, 0 ≤ mnI s r n ∧ mnI s r n ≤ n
  | 0 => by simp [mnI]
  | n + 1 => by have := mnI_r s r n; unfold mnI; split <;> omega
def fiF (κ : MI) (r : Int) (t : Nat) : Nat → Int
  | 0 => 4
  | s + 1 => if alv κ t s then (if mnI s r (us κ) < fiF κ r t s then mnI s r (us κ) else fiF κ r t s) else fiF κ r t s
def moF (κ : MI) (r : Int) (t : Nat) : Nat → Int
  | 0 => 0
  | s + 1 => if alv κ t s then (if moF κ r t s < mnI s r (us κ) then mnI s r (us κ) else moF κ r t s) else moF κ r t s
theorem moF_r (κ : MI) (r : Int) (t : Nat) : ∀ s, 0 ≤ moF κ r t s ∧ moF κ r t s ≤ us κ
  | 0 => by unfold moF; omega
  | s + 1 => by
    have h1 := mnI_r s r (us κ); have h2 := moF_r κ r t s
    unfold moF; repeat' split
    all_goals omega
noncomputable def s_rooms (r t : Int) (I : MI) : Int × MI := if r < 0 ∨ I 0 11 ≤ r ∨ t < 0 ∨ I 0 14 < t then (-1, I) else if okA I = false then (-3, a_mt I 4) else (fiF (kap I 0 (I 0 13)) r t.toNat (nst (kap I 0 (I 0 13))), a_tl I (moF (kap I 0 (I 0 13)) r t.toNat (nst (kap I 0 (I 0 13)))))
section
variable {G : GT} {sh : MS} {I L : MI} {R : MR} {κ : MI}
end

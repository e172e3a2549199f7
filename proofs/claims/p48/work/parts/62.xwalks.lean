/-! THE CLASS: the Walks: values changed one by one; what may, must be. -/
/-- the first n values of a, each by f -/
def mapL (L : MI) (a n : Nat) (f : Nat → Int → Int) : MI := fun c i => if c = a ∧ 0 ≤ i ∧ i < (n : Int) then f i.toNat (L a i) else L c i
theorem mapL_0 (L : MI) (a : Nat) (f : Nat → Int → Int) : mapL L a 0 f = L := by
  funext c i
  unfold mapL
  rw [if_neg (by omega)]
theorem mapL_ne {L : MI} {a n : Nat} {f : Nat → Int → Int} {c : Nat} (h : c ≠ a) (i : Int) : mapL L a n f c i = L c i := by
  unfold mapL
  rw [if_neg (fun q => h q.1)]
theorem mapL_in {L : MI} {a n j : Nat} {f : Nat → Int → Int} (h : j < n) : mapL L a n f a (j : Int) = f j (L a (j : Int)) := by
  unfold mapL
  rw [if_pos ⟨rfl, by omega, by omega⟩, Int.toNat_natCast]
theorem mapL_out {L : MI} {a n : Nat} {f : Nat → Int → Int} {i : Int} (h : (n : Int) ≤ i) : mapL L a n f a i = L a i := by
  unfold mapL
  rw [if_neg (by omega)]
theorem mapL_up (L : MI) (a n : Nat) (f : Nat → Int → Int) : m_up (mapL L a n f) a (n : Int) (f n (L a (n : Int))) = mapL L a (n + 1) f := by
  funext c i
  unfold m_up mapL
  by_cases h : c = a ∧ i = (n : Int)
  · obtain ⟨rfl, rfl⟩ := h
    rw [if_pos ⟨rfl, rfl⟩, if_pos ⟨rfl, by omega, by omega⟩, Int.toNat_natCast]
  · rw [if_neg h]
    by_cases h2 : c = a ∧ 0 ≤ i ∧ i < (n : Int)
    · rw [if_pos h2, if_pos ⟨h2.1, by omega, by omega⟩]
    · rw [if_neg h2, if_neg (by omega)]
theorem mapL_same (L : MI) (a n : Nat) (f : Nat → Int → Int) (h : f n (L a (n : Int)) = L a (n : Int)) : mapL L a n f = mapL L a (n + 1) f := by
  rw [← mapL_up, h]
  funext c i
  unfold m_up
  by_cases h : c = a ∧ i = (n : Int)
  · obtain ⟨rfl, rfl⟩ := h
    rw [if_pos ⟨rfl, rfl⟩, mapL_out (by omega)]
  · rw [if_neg h]
def mbF (I L : MI) (p t : Nat) : Nat → Int
  | 0 => 0
  | k + 1 => if inX L k t then z_or (mbF I L p t k) (I (p + 7) (k : Int)) else mbF I L p t k
def muF (I L : MI) (p t : Nat) : Nat → Int
  | 0 => -1
  | k + 1 => if inX L k t then z_and (muF I L p t k) (I (p + 7) (k : Int)) else muF I L p t k
section
variable {G : GT} {I L : MI} {R : MR} {p h na nb nk : Nat}
end

/-! THE CLASS: its cells; what stays of its references. -/
def shX : MS := [.inl 7, .inl 5, .inr (3, 6), .inr (0, 40), .inr (0, 40), .inr (0, 40), .inr (0, 40), .inr (0, 40), .inr (0, 40), .inr (0, 6), .inl 5, .inr (3, 4), .inr (0, 80), .inr (0, 80), .inr (0, 80), .inr (0, 80), .inr (0, 4), .inl 4, .inr (0, 0), .inl 6, .inl 1, .inr (0, 39), .inr (0, 84), .inr (0, 84), .inr (1, 837), .inr (0, 93), .inr (0, 93), .inr (0, 31), .inr (0, 31), .inr (1, 1728), .inr (1, 1728), .inr (1, 1728), .inl 0, .inr (0, 8), .inr (0, 8), .inr (0, 3), .inr (0, 3), .inl 0, .inr (0, 8), .inr (0, 8), .inr (0, 3), .inr (0, 3), .inl 3, .inr (0, 31), .inr (0, 31), .inr (0, 31), .inr (0, 31), .inr (0, 3), .inr (0, 3), .inr (0, 1728), .inl 3, .inr (0, 31), .inr (0, 31), .inr (0, 31), .inr (0, 31), .inr (0, 3), .inr (0, 3), .inr (0, 1728), .inl 2, .inr (0, 24), .inr (0, 24), .inr (0, 24), .inr (0, 24), .inl 2, .inr (0, 24), .inr (0, 24), .inr (0, 24), .inr (0, 24), .inr (0, 6)]
def rX (a : Nat) (j : Int) : Option Nat := match a with
  | 0 => (match j with | .ofNat 0 => some 1 | .ofNat 1 => some 10 | .ofNat 2 => some 17 | .ofNat 3 => some 19 | .ofNat 4 => some 42 | .ofNat 5 => some 50 | .ofNat 6 => some 58 | .ofNat 7 => some 63 | .ofNat 15 => some 68 | _ => none)
  | 1 => (match j with | .ofNat 0 => some 2 | .ofNat 1 => some 9 | _ => none)
  | 2 => (match j with | .ofNat 0 => some 3 | .ofNat 1 => some 4 | .ofNat 2 => some 5 | .ofNat 3 => some 6 | .ofNat 4 => some 7 | .ofNat 5 => some 8 | _ => none)
  | 10 => (match j with | .ofNat 0 => some 11 | .ofNat 1 => some 16 | _ => none)
  | 11 => (match j with | .ofNat 0 => some 12 | .ofNat 1 => some 13 | .ofNat 2 => some 14 | .ofNat 3 => some 15 | _ => none)
  | 19 => (match j with | .ofNat 0 => some 20 | .ofNat 1 => some 24 | .ofNat 2 => some 25 | .ofNat 3 => some 26 | .ofNat 4 => some 27 | .ofNat 5 => some 28 | _ => none)
  | 20 => (match j with | .ofNat 0 => some 21 | .ofNat 1 => some 22 | .ofNat 2 => some 23 | _ => none)
  | 32 => (match j with | .ofNat 5 => some 33 | .ofNat 6 => some 34 | .ofNat 7 => some 35 | .ofNat 8 => some 36 | _ => none)
  | 37 => (match j with | .ofNat 5 => some 38 | .ofNat 6 => some 39 | .ofNat 7 => some 40 | .ofNat 8 => some 41 | _ => none)
  | 42 => (match j with | .ofNat 5 => some 43 | .ofNat 6 => some 44 | .ofNat 7 => some 45 | .ofNat 8 => some 46 | .ofNat 9 => some 47 | .ofNat 10 => some 48 | .ofNat 11 => some 49 | _ => none)
  | 50 => (match j with | .ofNat 5 => some 51 | .ofNat 6 => some 52 | .ofNat 7 => some 53 | .ofNat 8 => some 54 | .ofNat 9 => some 55 | .ofNat 10 => some 56 | .ofNat 11 => some 57 | _ => none)
  | 58 => (match j with | .ofNat 1 => some 59 | .ofNat 2 => some 60 | .ofNat 3 => some 61 | .ofNat 4 => some 62 | _ => none)
  | 63 => (match j with | .ofNat 1 => some 64 | .ofNat 2 => some 65 | .ofNat 3 => some 66 | .ofNat 4 => some 67 | _ => none)
  | _ => none
def okR (R : MR) : Prop := ∀ a j v, rX a j = some v → R a j = some v
/-- a house's cells; a night's; a plan's; a shelf's -/
def isH (R : MR) (h : Nat) : Prop := (h = 32 ∨ h = 37) ∧ R h 5 = some (h + 1) ∧ R h 6 = some (h + 2) ∧ R h 7 = some (h + 3) ∧ R h 8 = some (h + 4)
def isN (R : MR) (n : Nat) : Prop := (n = 58 ∨ n = 63) ∧ R n 1 = some (n + 1) ∧ R n 2 = some (n + 2) ∧ R n 3 = some (n + 3) ∧ R n 4 = some (n + 4)
def isP (R : MR) (p : Nat) : Prop := (p = 42 ∨ p = 50) ∧ R p 5 = some (p + 1) ∧ R p 6 = some (p + 2) ∧ R p 7 = some (p + 3) ∧ R p 8 = some (p + 4) ∧ R p 9 = some (p + 5) ∧ R p 10 = some (p + 6) ∧ R p 11 = some (p + 7)
def isS (R : MR) (s z n k : Nat) : Prop := ((s = 1 ∧ z = 9 ∧ n = 6 ∧ k = 40) ∨ (s = 10 ∧ z = 16 ∧ n = 4 ∧ k = 80)) ∧ R s 0 = some (s + 1) ∧ R s 1 = some z ∧ ∀ i : Nat, i < n → R (s + 1) (i : Int) = some (s + 2 + i)
theorem okR.h {R : MR} (k : okR R) {h : Nat} (hh : h = 32 ∨ h = 37) : isH R h := by
  rcases hh with rfl | rfl
  · exact ⟨Or.inl rfl, k 32 5 33 rfl, k 32 6 34 rfl, k 32 7 35 rfl, k 32 8 36 rfl⟩
  · exact ⟨Or.inr rfl, k 37 5 38 rfl, k 37 6 39 rfl, k 37 7 40 rfl, k 37 8 41 rfl⟩
theorem okR.n {R : MR} (k : okR R) {h : Nat} (hh : h = 58 ∨ h = 63) : isN R h := by
  rcases hh with rfl | rfl
  · exact ⟨Or.inl rfl, k 58 1 59 rfl, k 58 2 60 rfl, k 58 3 61 rfl, k 58 4 62 rfl⟩
  · exact ⟨Or.inr rfl, k 63 1 64 rfl, k 63 2 65 rfl, k 63 3 66 rfl, k 63 4 67 rfl⟩
theorem okR.p {R : MR} (k : okR R) {h : Nat} (hh : h = 42 ∨ h = 50) : isP R h := by
  rcases hh with rfl | rfl
  · exact ⟨Or.inl rfl, k 42 5 43 rfl, k 42 6 44 rfl, k 42 7 45 rfl, k 42 8 46 rfl, k 42 9 47 rfl, k 42 10 48 rfl, k 42 11 49 rfl⟩
  · exact ⟨Or.inr rfl, k 50 5 51 rfl, k 50 6 52 rfl, k 50 7 53 rfl, k 50 8 54 rfl, k 50 9 55 rfl, k 50 10 56 rfl, k 50 11 57 rfl⟩
theorem okR.s10 {R : MR} (k : okR R) : isS R 10 16 4 80 := by
  refine ⟨Or.inr ⟨rfl, rfl, rfl, rfl⟩, k 10 0 11 rfl, k 10 1 16 rfl, fun i hi => ?_⟩
  have : i = 0 ∨ i = 1 ∨ i = 2 ∨ i = 3 := by omega
  rcases this with rfl | rfl | rfl | rfl
  · exact k 11 0 12 rfl
  · exact k 11 1 13 rfl
  · exact k 11 2 14 rfl
  · exact k 11 3 15 rfl
theorem shH0 {R : MR} {x : Nat} (h : isH R x) : shX[x]? = some (.inl 0) := by
  rcases h.1 with rfl | rfl <;> rfl
theorem shH1 {R : MR} {x : Nat} (h : isH R x) : shX[x + 1]? = some (.inr (0, 8)) := by
  rcases h.1 with rfl | rfl <;> rfl
theorem shH2 {R : MR} {x : Nat} (h : isH R x) : shX[x + 2]? = some (.inr (0, 8)) := by
  rcases h.1 with rfl | rfl <;> rfl
theorem shH3 {R : MR} {x : Nat} (h : isH R x) : shX[x + 3]? = some (.inr (0, 3)) := by
  rcases h.1 with rfl | rfl <;> rfl
theorem shH4 {R : MR} {x : Nat} (h : isH R x) : shX[x + 4]? = some (.inr (0, 3)) := by
  rcases h.1 with rfl | rfl <;> rfl
theorem shN0 {R : MR} {x : Nat} (h : isN R x) : shX[x]? = some (.inl 2) := by
  rcases h.1 with rfl | rfl <;> rfl
theorem shN1 {R : MR} {x : Nat} (h : isN R x) : shX[x + 1]? = some (.inr (0, 24)) := by
  rcases h.1 with rfl | rfl <;> rfl
theorem shN2 {R : MR} {x : Nat} (h : isN R x) : shX[x + 2]? = some (.inr (0, 24)) := by
  rcases h.1 with rfl | rfl <;> rfl
theorem shN3 {R : MR} {x : Nat} (h : isN R x) : shX[x + 3]? = some (.inr (0, 24)) := by
  rcases h.1 with rfl | rfl <;> rfl
theorem shN4 {R : MR} {x : Nat} (h : isN R x) : shX[x + 4]? = some (.inr (0, 24)) := by
  rcases h.1 with rfl | rfl <;> rfl
theorem shP0 {R : MR} {x : Nat} (h : isP R x) : shX[x]? = some (.inl 3) := by
  rcases h.1 with rfl | rfl <;> rfl
theorem shP1 {R : MR} {x : Nat} (h : isP R x) : shX[x + 1]? = some (.inr (0, 31)) := by
  rcases h.1 with rfl | rfl <;> rfl
theorem shP2 {R : MR} {x : Nat} (h : isP R x) : shX[x + 2]? = some (.inr (0, 31)) := by
  rcases h.1 with rfl | rfl <;> rfl
theorem shP3 {R : MR} {x : Nat} (h : isP R x) : shX[x + 3]? = some (.inr (0, 31)) := by
  rcases h.1 with rfl | rfl <;> rfl
theorem shP4 {R : MR} {x : Nat} (h : isP R x) : shX[x + 4]? = some (.inr (0, 31)) := by
  rcases h.1 with rfl | rfl <;> rfl
theorem shP5 {R : MR} {x : Nat} (h : isP R x) : shX[x + 5]? = some (.inr (0, 3)) := by
  rcases h.1 with rfl | rfl <;> rfl
theorem shP6 {R : MR} {x : Nat} (h : isP R x) : shX[x + 6]? = some (.inr (0, 3)) := by
  rcases h.1 with rfl | rfl <;> rfl
theorem shP7 {R : MR} {x : Nat} (h : isP R x) : shX[x + 7]? = some (.inr (0, 1728)) := by
  rcases h.1 with rfl | rfl <;> rfl
theorem shS0 {R : MR} {s z n k : Nat} (h : isS R s z n k) : shX[s]? = some (.inl 5) := by
  rcases h.1 with ⟨rfl, -, -, -⟩ | ⟨rfl, -, -, -⟩ <;> rfl
theorem shS1 {R : MR} {s z n k : Nat} (h : isS R s z n k) : shX[s + 1]? = some (.inr (3, n)) := by
  rcases h.1 with ⟨rfl, -, rfl, -⟩ | ⟨rfl, -, rfl, -⟩ <;> rfl
theorem shSz {R : MR} {s z n k : Nat} (h : isS R s z n k) : shX[z]? = some (.inr (0, n)) := by
  rcases h.1 with ⟨-, rfl, rfl, -⟩ | ⟨-, rfl, rfl, -⟩ <;> rfl
theorem shSi {R : MR} {s z n k : Nat} (h : isS R s z n k) {i : Nat} (hi : i < n) : shX[s + 2 + i]? = some (.inr (0, k)) := by
  rcases h.1 with ⟨rfl, rfl, rfl, rfl⟩ | ⟨rfl, rfl, rfl, rfl⟩
  · have : i = 0 ∨ i = 1 ∨ i = 2 ∨ i = 3 ∨ i = 4 ∨ i = 5 := by omega
    rcases this with rfl | rfl | rfl | rfl | rfl | rfl <;> rfl
  · have : i = 0 ∨ i = 1 ∨ i = 2 ∨ i = 3 := by omega
    rcases this with rfl | rfl | rfl | rfl <;> rfl


/-! Three rows of whole's that nothing else needs here. -/
theorem al_congr {f g : Nat → Bool} {n : Nat} (h : ∀ k, k < n → f k = g k) : al f n = al g n := by
  induction n with
  | zero => rfl
  | succ n ih => unfold al; rw [ih (fun k hk => h k (by omega)), h n (by omega)]
theorem orf_congr {f g : Nat → Int} {n : Nat} (h : ∀ k, k < n → f k = g k) : orf f n = orf g n := by
  induction n with
  | zero => rfl
  | succ n ih => unfold orf; rw [ih (fun k hk => h k (by omega)), h n (by omega)]
theorem smf_congr {f g : Nat → Nat} {n : Nat} (h : ∀ k, k < n → f k = g k) : smf f n = smf g n := by
  induction n with
  | zero => rfl
  | succ n ih => unfold smf; rw [ih (fun k hk => h k (by omega)), h n (by omega)]

/-! LISTS: products, their orders, ranges. -/
theorem fm_congr {α β : Type} {f g : α → List β} : ∀ l : List α, (∀ a ∈ l, f a = g a) → l.flatMap f = l.flatMap g
  | [], _ => rfl
  | a :: l, h => by
    rw [List.flatMap_cons, List.flatMap_cons, h a (List.mem_cons_self), fm_congr l (fun b hb => h b (List.mem_cons_of_mem _ hb))]
theorem fm_nil {α β : Type} : ∀ l : List α, (l.flatMap (fun _ => ([] : List β))) = []
  | [] => rfl
  | a :: l => by rw [List.flatMap_cons, fm_nil l]; rfl
theorem fm_perm {α β : Type} {f g : α → List β} : ∀ l : List α, (∀ a ∈ l, (f a).Perm (g a)) → (l.flatMap f).Perm (l.flatMap g)
  | [], _ => List.Perm.refl _
  | a :: l, h => by
    rw [List.flatMap_cons, List.flatMap_cons]
    exact (h a (List.mem_cons_self)).append (fm_perm l (fun b hb => h b (List.mem_cons_of_mem _ hb)))
theorem fm_app {α β : Type} {f g : α → List β} : ∀ l : List α, (l.flatMap (fun a => f a ++ g a)).Perm (l.flatMap f ++ l.flatMap g)
  | [] => List.Perm.refl _
  | a :: l => by
    rw [List.flatMap_cons, List.flatMap_cons, List.flatMap_cons]
    refine (List.Perm.append_left _ (fm_app l)).trans ?_
    rw [List.append_assoc, List.append_assoc]
    exact List.Perm.append_left _ (List.perm_append_comm_assoc _ _ _)
theorem fm_swap {α β γ : Type} (B : List β) (f : α → β → List γ) : ∀ A : List α, (A.flatMap fun a => B.flatMap fun b => f a b).Perm (B.flatMap fun b => A.flatMap fun a => f a b)
  | [] => by
    show ([] : List γ).Perm (B.flatMap fun _ => [])
    rw [fm_nil]
  | a :: A => by
    rw [List.flatMap_cons]
    refine (List.Perm.append_left _ (fm_swap B f A)).trans ?_
    exact (fm_app (f := fun b => f a b) (g := fun b => A.flatMap fun x => f x b) B).symm
/-- three lists, first by first and last by last -/
theorem fm_3 {α β : Type} (A B C : List α) (f : α → α → α → List β) : (A.flatMap fun a => B.flatMap fun b => C.flatMap fun c => f a b c).Perm (C.flatMap fun c => B.flatMap fun b => A.flatMap fun a => f a b c) := by
  have h1 : (A.flatMap fun a => B.flatMap fun b => C.flatMap fun c => f a b c).Perm (A.flatMap fun a => C.flatMap fun c => B.flatMap fun b => f a b c) := fm_perm A (fun a _ => fm_swap C (fun b c => f a b c) B)
  have h2 : (A.flatMap fun a => C.flatMap fun c => B.flatMap fun b => f a b c).Perm (C.flatMap fun c => A.flatMap fun a => B.flatMap fun b => f a b c) := fm_swap C (fun a c => B.flatMap fun b => f a b c) A
  have h3 : (C.flatMap fun c => A.flatMap fun a => B.flatMap fun b => f a b c).Perm (C.flatMap fun c => B.flatMap fun b => A.flatMap fun a => f a b c) := fm_perm C (fun c _ => fm_swap B (fun a b => f a b c) A)
  exact h1.trans (h2.trans h3)
theorem rg_2 {γ : Type} (n : Nat) (hn : 0 < n) (g : Nat → Nat → List γ) : ∀ m : Nat, ((List.range (n * m)).flatMap fun c => g (c % n) (c / n)) = (List.range m).flatMap fun q => (List.range n).flatMap fun r => g r q
  | 0 => by rw [Nat.mul_zero]; rfl
  | m + 1 => by
    rw [Nat.mul_succ, List.range_add, List.flatMap_append, rg_2 n hn g m, List.range_succ, List.flatMap_append, List.flatMap_map, List.flatMap_singleton]
    congr 1
    refine fm_congr _ (fun r hr => ?_)
    have hr2 : r < n := List.mem_range.mp hr
    rw [Nat.mul_add_mod, Nat.mod_eq_of_lt hr2, Nat.mul_add_div hn, Nat.div_eq_of_lt hr2, Nat.add_zero]
theorem rg_l {α β : Type} (d : α) (f : α → List β) : ∀ l : List α, ((List.range l.length).flatMap fun i => f (l[i]?.getD d)) = l.flatMap f
  | [] => rfl
  | a :: l => by
    rw [List.length_cons, List.range_succ_eq_map, List.flatMap_cons, List.flatMap_map, List.flatMap_cons, ← rg_l d f l]
    rfl
theorem rg_3 {α β : Type} (d : α) (A B C : List α) (hA : 0 < A.length) (hB : 0 < B.length) (f : α → α → α → List β) :
    ((List.range (A.length * (B.length * C.length))).flatMap fun c => f (A[c % A.length]?.getD d) (B[c / A.length % B.length]?.getD d) (C[c / A.length / B.length]?.getD d)) = C.flatMap fun z => B.flatMap fun y => A.flatMap fun x => f x y z := by
  have h1 := rg_2 A.length hA (fun r q => f (A[r]?.getD d) (B[q % B.length]?.getD d) (C[q / B.length]?.getD d)) (B.length * C.length)
  rw [h1]
  have h2 := rg_2 B.length hB (fun r q => (List.range A.length).flatMap fun i => f (A[i]?.getD d) (B[r]?.getD d) (C[q]?.getD d)) C.length
  rw [h2, ← rg_l d (fun z => B.flatMap fun y => A.flatMap fun x => f x y z) C]
  refine fm_congr _ (fun q _ => ?_)
  rw [← rg_l d (fun y => A.flatMap fun x => f x y (C[q]?.getD d)) B]
  refine fm_congr _ (fun r _ => ?_)
  rw [← rg_l d (fun x => f x (B[r]?.getD d) (C[q]?.getD d)) A]
theorem fm_if {α β : Type} (P : α → Bool) (f : α → List β) : ∀ l : List α, (l.flatMap fun a => if P a = true then f a else []) = (l.filter P).flatMap f
  | [] => rfl
  | a :: l => by
    rw [List.flatMap_cons, List.filter_cons, fm_if P f l]
    split
    · rw [List.flatMap_cons]
    · rfl
/-- states that count lie in the picture of a map -/
theorem st_perm {β : Type} {m n : Nat} {σ : Nat → Nat} (P : Nat → Bool) (f : Nat → List β) (h1 : ∀ j, j < n → σ j < m) (h2 : ∀ i j, i < n → j < n → σ i = σ j → i = j) (h3 : ∀ s, s < m → P s = true → ∃ j, j < n ∧ σ j = s) :
    ((List.range m).flatMap fun s => if P s = true then f s else []).Perm ((List.range n).flatMap fun j => if P (σ j) = true then f (σ j) else []) := by
  rw [fm_if P f, fm_if (fun j => P (σ j)) (fun j => f (σ j)), ← List.flatMap_map σ f]
  refine List.Perm.flatMap_right f ((List.perm_ext_iff_of_nodup ?_ ?_).mpr ?_)
  · exact List.Pairwise.filter _ List.nodup_range
  · unfold List.Nodup
    rw [List.pairwise_map]
    have h4 : ((List.range n).filter (fun j => P (σ j))).Nodup := List.Pairwise.filter _ List.nodup_range
    refine List.Pairwise.imp_of_mem (fun {a b} ha hb q e => ?_) h4
    have ha2 := List.mem_range.mp (List.mem_filter.mp ha).1
    have hb2 := List.mem_range.mp (List.mem_filter.mp hb).1
    exact q (h2 a b ha2 hb2 e)
  · intro s
    rw [List.mem_filter, List.mem_range, List.mem_map]
    constructor
    · rintro ⟨q1, q2⟩
      obtain ⟨j, hj, rfl⟩ := h3 s q1 q2
      exact ⟨j, List.mem_filter.mpr ⟨List.mem_range.mpr hj, q2⟩, rfl⟩
    · rintro ⟨j, hj, rfl⟩
      obtain ⟨q1, q2⟩ := List.mem_filter.mp hj
      exact ⟨h1 j (List.mem_range.mp q1), q2⟩


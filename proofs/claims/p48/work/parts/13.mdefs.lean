/-! WHAT THE REFERENCE'S SEARCH IS, in words of its own memory κ. -/
theorem lpn (n : Nat) {P : Nat → Prop} (hs : ∀ k, k < n → P (k + 1) → P k) (hx : P n) : ∀ k, k ≤ n → P k := by
  intro k hk
  obtain ⟨d, hd⟩ : ∃ d, n - k = d := ⟨_, rfl⟩
  induction d generalizing k with
  | zero => have : k = n := by omega
            rw [this]; exact hx
  | succ d ih => exact hs k (by omega) (ih (k + 1) (by omega) (by omega))
section
variable {G : GT} {μ : MT} {Q : Option MV → MI → MI → MR → Prop} {pc : Nat} {lv : List (Nat × MV)} {st : List MV} {sh : MS} {I L : MI} {R : MR}
/-- fewer locals are known -/
theorem x_top {lv' : List (Nat × MV)} (n : Nat) (he : lv.filter (fun q => Nat.blt q.1 n) = lv') (k : Rn G μ Q pc lv' st sh I L R) : Rn G μ Q pc lv st sh I L R :=
  fun p e s m args below meth c H locs b A ls C hP hD hS hA ht hl => k p e s m args below meth c H locs b A ls C hP hD hS hA ht
    ⟨hl.1, hl.2.1, fun q hq => by
      obtain ⟨x, hx, rfl⟩ := List.mem_map.mp hq
      rw [← he] at hx
      exact hl.2.2 _ (List.mem_map.mpr ⟨x, (List.mem_filter.mp hx).1, rfl⟩)⟩
end
/-- place of a walker in a joint state; his room -/
def pl (s w : Nat) : Nat := if w = 0 then s % 12 else if w = 1 then s / 12 % 12 else s / 144
def rm (s w : Nat) : Nat := pl s w / 2
theorem pl_lt {s w : Nat} (h : s < 1728) : pl s w < 12 := by
  unfold pl
  repeat' split
  all_goals omega
theorem rm_lt {s w : Nat} (h : s < 1728) : rm s w < 6 := by have := pl_lt (w := w) h; unfold rm; omega
/-- all, or, sum, product of the first n -/
def al (f : Nat → Bool) : Nat → Bool
  | 0 => true
  | n + 1 => al f n && f n
def orf (f : Nat → Int) : Nat → Int
  | 0 => 0
  | n + 1 => z_or (orf f n) (f n)
def prf (f : Nat → Nat) : Nat → Nat
  | 0 => 1
  | n + 1 => prf f n * f n
def smf (f : Nat → Nat) : Nat → Nat
  | 0 => 0
  | n + 1 => smf f n + f n
theorem al_iff {f : Nat → Bool} {n : Nat} : al f n = true ↔ ∀ k, k < n → f k = true := by
  induction n with
  | zero => simp [al]
  | succ n ih =>
    simp only [al, Bool.and_eq_true, ih]
    constructor
    · rintro ⟨h1, h2⟩ k hk
      by_cases e : k = n
      · rw [e]; exact h2
      · exact h1 k (by omega)
    · intro h
      exact ⟨fun k hk => h k (by omega), h n (by omega)⟩
theorem orf_r (f : Nat → Int) (n : Nat) : rI (orf f n) := by
  cases n with
  | zero => unfold orf; omega
  | succ n => exact z_or_r _ _
theorem al_congr {f g : Nat → Bool} {n : Nat} (h : ∀ k, k < n → f k = g k) : al f n = al g n := by
  induction n with
  | zero => rfl
  | succ n ih => unfold al; rw [ih (fun k hk => h k (by omega)), h n (by omega)]
theorem orf_congr {f g : Nat → Int} {n : Nat} (h : ∀ k, k < n → f k = g k) : orf f n = orf g n := by
  induction n with
  | zero => rfl
  | succ n ih => unfold orf; rw [ih (fun k hk => h k (by omega)), h n (by omega)]
theorem smf_congr {f g : Nat → Nat} {n : Nat} (h : ∀ k, k < n → f k = g k) : smf f n = smf g n := by
  induction n with
  | zero => rfl
  | succ n ih => unfold smf; rw [ih (fun k hk => h k (by omega)), h n (by omega)]
/-- rooms in which somebody is -/
def us (κ : MI) : Nat := (κ 0 34).toNat
def rsK (κ : MI) (s : Nat) : Int := orf (fun w => z_shl 1 (rm s w : Int)) (us κ)
/-- as is told of a minute; so may begin -/
def okb (κ : MI) (t : Int) (s : Nat) : Bool := (z_and (κ 15 t) (z_xor (rsK κ s) (-1)) == 0 && z_and (κ 16 t) (rsK κ s) == 0) && al (fun w => decide ((rm s w : Int) < κ 0 11) && (κ 17 (3 * t + w) == -1 || κ 17 (3 * t + w) == (rm s w : Int))) (us κ)
def begb (κ : MI) (s : Nat) : Bool := okb κ 0 s && al (fun w => pl s w % 2 == 0 && tb (κ 8 (2 * (w : Int) + 1)) (rm s w)) (us κ)
/-- the moves of a walker: door (or -1) and place behind -/
def mcd (κ : MI) (t : Int) (s w d : Nat) : Bool := (κ 7 (3 * (d : Int)) == (rm s w : Int) || κ 7 (3 * (d : Int) + 1) == (rm s w : Int)) && !tb (κ 14 t) d
def mto (κ : MI) (s w d : Nat) : Int := 2 * (κ 7 (3 * (d : Int)) + κ 7 (3 * (d : Int) + 1) - (rm s w : Int)) + (if κ 8 (2 * (w : Int)) = 2 then 1 else 0)
def mlp (κ : MI) (t : Int) (s w : Nat) : Nat → List (Int × Int)
  | 0 => [(-1, 2 * (rm s w : Int))]
  | d + 1 => mlp κ t s w d ++ (if mcd κ t s w d then [((d : Int), mto κ s w d)] else [])
def mvl (κ : MI) (t : Int) (s w : Nat) : List (Int × Int) := if pl s w % 2 = 0 then mlp κ t s w (κ 0 12).toNat else mlp κ t s w 0
theorem mlp_len (κ : MI) (t : Int) (s w d : Nat) : 1 ≤ (mlp κ t s w d).length ∧ (mlp κ t s w d).length ≤ d + 1 := by
  induction d with
  | zero => simp [mlp]
  | succ d ih =>
    unfold mlp
    split <;> simp <;> omega
theorem mvl_len {κ : MI} (h : 0 ≤ κ 0 12 ∧ κ 0 12 ≤ 8) (t : Int) (s w : Nat) : 1 ≤ (mvl κ t s w).length ∧ (mvl κ t s w).length ≤ 9 := by
  have h1 := mlp_len κ t s w (κ 0 12).toNat
  have h2 := mlp_len κ t s w 0
  unfold mvl
  split <;> omega
/-- how many moves of all there are; the c-th one, by walkers -/
def mal (κ : MI) (t : Int) (s : Nat) : Nat := prf (fun w => (mvl κ t s w).length) (us κ)
def mix (κ : MI) (t : Int) (s c w : Nat) : Nat := c / prf (fun w => (mvl κ t s w).length) w % (mvl κ t s w).length
def mvd (κ : MI) (t : Int) (s c w : Nat) : Int := ((mvl κ t s w)[mix κ t s c w]?.getD (-1, 0)).1
def mvt (κ : MI) (t : Int) (s c w : Nat) : Int := ((mvl κ t s w)[mix κ t s c w]?.getD (-1, 0)).2
def pas (κ : MI) (t : Int) (s c : Nat) : Int := orf (fun w => if mvd κ t s c w < 0 then 0 else z_shl 1 (mvd κ t s c w)) (us κ)
def nxt (κ : MI) (t : Int) (s c : Nat) : Nat := smf (fun w => 12 ^ w * (mvt κ t s c w).toNat) (us κ)
/-- what is passed is what is heard -/
def byK (κ : MI) (t : Int) : Int := if 0 ≤ κ 0 36 ∧ κ 0 37 ≤ t then z_and (κ 0 35) (z_xor (z_shl 1 (κ 0 36)) (-1)) else κ 0 35
def vld (κ : MI) (t : Int) (s c : Nat) : Bool := z_and (pas κ t s c) (byK κ t) == κ 13 t && okb κ (t + 1) (nxt κ t s c)
def mor (a b : Int) : Int := if 1000000000000000 < a + b then 1000000000000001 else a + b
def upn (A : Nat → Int) (k : Nat) (v : Int) : Nat → Int := fun x => if x = k then v else A x
def stp (κ : MI) (t : Int) (s : Nat) (v : Int) (A : Nat → Int) : Nat → (Nat → Int)
  | 0 => A
  | c + 1 => if vld κ t s c then upn (stp κ t s v A c) (nxt κ t s c) (mor (stp κ t s v A c (nxt κ t s c)) v) else stp κ t s v A c
def nst (κ : MI) : Nat := 12 ^ us κ
def rwl (κ : MI) (t : Int) (F : Nat → Int) : Nat → (Nat → Int)
  | 0 => fun _ => 0
  | s + 1 => if 0 < F s then stp κ t s (F s) (rwl κ t F s) (mal κ t s) else rwl κ t F s
def Fr (κ : MI) : Nat → Nat → Int
  | 0 => fun s => if begb κ s then 1 else 0
  | t + 1 => rwl κ (t : Int) (Fr κ t) (nst κ)
def lst (κ : MI) : Nat := (κ 0 14).toNat
/-- on to the last minute: u minutes ahead of it -/
def rst (κ : MI) (t : Int) (s : Nat) (B : Nat → Int) : Nat → Int
  | 0 => 0
  | c + 1 => if vld κ t s c then mor (rst κ t s B c) (B (nxt κ t s c)) else rst κ t s B c
def Rb (κ : MI) : Nat → Nat → Int
  | 0 => fun s => if 0 < Fr κ (lst κ) s then 1 else 0
  | u + 1 => fun s => if 0 < Fr κ (lst κ - (u + 1)) s then rst κ ((lst κ - (u + 1) : Nat) : Int) s (Rb κ u) (mal κ ((lst κ - (u + 1) : Nat) : Int) s) else 0
def Re (κ : MI) (t s : Nat) : Int := Rb κ (lst κ - t) s
def alv (κ : MI) (t s : Nat) : Bool := decide (0 < Fr κ t s) && decide (0 < Re κ t s)
/-- some state can be in minute t -/
def som (κ : MI) (F : Nat → Int) : Nat → Bool
  | 0 => false
  | s + 1 => som κ F s || decide (0 < F s)
/-- the first minute till which there is none: from t on, n minutes -/
def fsF (κ : MI) (t : Nat) : Nat → Int
  | 0 => -9
  | n + 1 => if som κ (Fr κ t) (nst κ) then fsF κ (t + 1) n else (t : Int)
def fst0 (κ : MI) : Int := fsF κ 0 (lst κ + 1)
/-- the scene's places: what lasts, and what is laid by minutes -/
def sce (c : Nat) (j : Int) : Prop := per c j ∨ ((c = 13 ∨ c = 14 ∨ c = 15 ∨ c = 16) ∧ 0 ≤ j ∧ j ≤ 30) ∨ (c = 17 ∧ 0 ≤ j ∧ j ≤ 92) ∨ (c = 0 ∧ (j = 34 ∨ j = 35 ∨ j = 36 ∨ j = 37))
def scr0 (c : Nat) (j : Int) : Prop := c = 21 ∨ (c = 0 ∧ (j = 42 ∨ j = 43))
def E0 (I I' : MI) : Prop := ∀ c j, ¬ scr0 c j → I' c j = I c j
def E1 (κ I : MI) : Prop := ∀ c j, sce c j → I c j = κ c j
theorem E1.rf (I : MI) : E1 I I := fun _ _ _ => rfl
theorem E1.tr {I J K : MI} (h : E1 I J) (k : E1 J K) : E1 I K := fun c j q => (k c j q).trans (h c j q)
theorem E0.rf (I : MI) : E0 I I := fun _ _ _ => rfl
theorem E0.tr {I J K : MI} (h : E0 I J) (k : E0 J K) : E0 I K := fun c j q => (k c j q).trans (h c j q)
theorem E1.up {I I' : MI} {c : Nat} {j v : Int} (h : E1 I I') (hs : ¬ sce c j) : E1 I (m_up I' c j v) := fun a i q => by
  unfold m_up
  by_cases e : a = c ∧ i = j
  · obtain ⟨rfl, rfl⟩ := e; exact absurd q hs
  · rw [if_neg e]; exact h a i q
theorem E0.up {I I' : MI} {c : Nat} {j v : Int} (h : E0 I I') (hs : scr0 c j) : E0 I (m_up I' c j v) := fun a i q => by
  unfold m_up
  by_cases e : a = c ∧ i = j
  · obtain ⟨rfl, rfl⟩ := e; exact absurd hs q
  · rw [if_neg e]; exact h a i q
def scr3 (c : Nat) (j : Int) : Prop := c = 18 ∨ c = 19 ∨ c = 20 ∨ (c = 0 ∧ j = 41)
def E3 (I I' : MI) : Prop := ∀ c j, ¬ scr3 c j → I' c j = I c j
theorem E3.rf (I : MI) : E3 I I := fun _ _ _ => rfl
theorem E3.up {I I' : MI} {c : Nat} {j v : Int} (h : E3 I I') (hs : scr3 c j) : E3 I (m_up I' c j v) := fun a i q => by
  unfold m_up
  by_cases e : a = c ∧ i = j
  · obtain ⟨rfl, rfl⟩ := e; exact absurd hs q
  · rw [if_neg e]; exact h a i q
/-- what a scene is like -/
def iHs (κ : MI) : Prop := (1 ≤ κ 0 11 ∧ κ 0 11 ≤ 6) ∧ (0 ≤ κ 0 12 ∧ κ 0 12 ≤ 8) ∧ (0 ≤ κ 0 13 ∧ κ 0 13 ≤ 3) ∧ (1 ≤ κ 0 14 ∧ κ 0 14 ≤ 30) ∧
  (∀ d, 0 ≤ d → d < κ 0 12 → 0 ≤ κ 7 (3 * d) ∧ κ 7 (3 * d) < κ 7 (3 * d + 1) ∧ κ 7 (3 * d + 1) < κ 0 11 ∧ (κ 7 (3 * d + 2) = 0 ∨ κ 7 (3 * d + 2) = 1)) ∧
  (∀ w, 0 ≤ w → w < κ 0 13 → (κ 8 (2 * w) = 1 ∨ κ 8 (2 * w) = 2) ∧ 0 < κ 8 (2 * w + 1) ∧ κ 8 (2 * w + 1) < 64)
def iSc (κ : MI) : Prop := (0 ≤ κ 0 34 ∧ κ 0 34 ≤ κ 0 13) ∧ (-9 ≤ κ 0 36 ∧ κ 0 36 ≤ 7) ∧ (0 ≤ κ 0 37 ∧ κ 0 37 ≤ 30) ∧ rI (κ 0 35) ∧ ∀ t, 0 ≤ t → t ≤ 30 → rI (κ 13 t) ∧ rI (κ 14 t) ∧ rI (κ 15 t) ∧ rI (κ 16 t) ∧ ∀ w, 0 ≤ w → w < 3 → rI (κ 17 (3 * t + w))
theorem us_le {κ : MI} (h : iHs κ) (h2 : iSc κ) : us κ ≤ 3 ∧ (us κ : Int) = κ 0 34 := by
  have := h.2.2.1; have := h2.1
  unfold us; omega
theorem nst_le {κ : MI} (h : iHs κ) (h2 : iSc κ) : 1 ≤ nst κ ∧ nst κ ≤ 1728 := by
  have h3 := us_le h h2
  unfold nst
  have : us κ = 0 ∨ us κ = 1 ∨ us κ = 2 ∨ us κ = 3 := by omega
  rcases this with e | e | e | e <;> rw [e] <;> decide
theorem mlp_r {κ : MI} (hH : iHs κ) {t : Int} {s w d : Nat} (hs : s < 1728) (hd : (d : Int) ≤ κ 0 12) : ∀ q ∈ mlp κ t s w d, (-1 ≤ q.1 ∧ q.1 ≤ 7) ∧ 0 ≤ q.2 ∧ q.2 ≤ 11 := by
  have hr := rm_lt (w := w) hs
  induction d with
  | zero => intro q hq; simp [mlp] at hq; subst hq; simp only; omega
  | succ d ih =>
    intro q hq
    unfold mlp at hq
    rcases List.mem_append.mp hq with hq | hq
    · exact ih (by omega) q hq
    · split at hq
      · rename_i hm
        simp at hq
        subst hq
        have h1 := hH.2.2.2.2.1 d (by omega) (by omega)
        have := hH.1; have := hH.2.1
        unfold mcd at hm
        rw [Bool.and_eq_true, Bool.or_eq_true, beq_iff_eq, beq_iff_eq] at hm
        simp only
        unfold mto
        rcases hm.1 with e | e
        · split <;> omega
        · split <;> omega
      · simp at hq
theorem mvl_r {κ : MI} (hH : iHs κ) {t : Int} {s w : Nat} (hs : s < 1728) : ∀ q ∈ mvl κ t s w, (-1 ≤ q.1 ∧ q.1 ≤ 7) ∧ 0 ≤ q.2 ∧ q.2 ≤ 11 := by
  have := hH.2.1
  unfold mvl
  split
  · exact mlp_r hH hs (by omega)
  · exact mlp_r hH hs (by omega)
theorem mix_at {κ : MI} (hH : iHs κ) (t : Int) (s c w : Nat) : ∃ q, (mvl κ t s w)[mix κ t s c w]? = some q ∧ mvd κ t s c w = q.1 ∧ mvt κ t s c w = q.2 ∧ mix κ t s c w < (mvl κ t s w).length := by
  have h := mvl_len hH.2.1 t s w
  have hi : mix κ t s c w < (mvl κ t s w).length := Nat.mod_lt _ (by omega)
  refine ⟨(mvl κ t s w)[mix κ t s c w], List.getElem?_eq_getElem hi, ?_, ?_, hi⟩
  · unfold mvd; rw [List.getElem?_eq_getElem hi]; rfl
  · unfold mvt; rw [List.getElem?_eq_getElem hi]; rfl
theorem mv_r {κ : MI} (hH : iHs κ) {t : Int} {s : Nat} (hs : s < 1728) (c w : Nat) : (-1 ≤ mvd κ t s c w ∧ mvd κ t s c w ≤ 7) ∧ 0 ≤ mvt κ t s c w ∧ mvt κ t s c w ≤ 11 := by
  obtain ⟨q, h1, h2, h3, -⟩ := mix_at hH t s c w
  rw [h2, h3]
  exact mvl_r hH hs q (List.mem_of_getElem? h1)
theorem nxt_lt {κ : MI} (hH : iHs κ) {t : Int} {s : Nat} (hs : s < 1728) (c : Nat) : nxt κ t s c < nst κ := by
  unfold nxt nst
  generalize us κ = n
  induction n with
  | zero => simp [smf]
  | succ n ih =>
    have := mv_r hH hs (t := t) c n
    unfold smf
    rw [Nat.pow_succ]
    have h2 : 12 ^ n * (mvt κ t s c n).toNat ≤ 12 ^ n * 11 := Nat.mul_le_mul_left _ (by omega)
    omega
theorem mor_r {a b : Int} (ha : 0 ≤ a ∧ a ≤ 1000000000000001) (hb : 0 ≤ b ∧ b ≤ 1000000000000001) : 0 ≤ mor a b ∧ mor a b ≤ 1000000000000001 := by
  unfold mor; split <;> omega
theorem stp_r {κ : MI} {t : Int} {s : Nat} {v : Int} {A : Nat → Int} (hv : 0 ≤ v ∧ v ≤ 1000000000000001) (hA : ∀ x, 0 ≤ A x ∧ A x ≤ 1000000000000001) : ∀ c x, 0 ≤ stp κ t s v A c x ∧ stp κ t s v A c x ≤ 1000000000000001
  | 0, x => hA x
  | c + 1, x => by
    unfold stp
    split
    · unfold upn
      split
      · exact mor_r (stp_r hv hA c _) hv
      · exact stp_r hv hA c x
    · exact stp_r hv hA c x
theorem rwl_t {κ : MI} {t : Int} {F : Nat → Int} {s : Nat} (h : 0 < F s) : rwl κ t F (s + 1) = stp κ t s (F s) (rwl κ t F s) (mal κ t s) := by
  show (if 0 < F s then stp κ t s (F s) (rwl κ t F s) (mal κ t s) else rwl κ t F s) = _
  rw [if_pos h]
theorem rwl_f {κ : MI} {t : Int} {F : Nat → Int} {s : Nat} (h : ¬ 0 < F s) : rwl κ t F (s + 1) = rwl κ t F s := by
  show (if 0 < F s then stp κ t s (F s) (rwl κ t F s) (mal κ t s) else rwl κ t F s) = _
  rw [if_neg h]
theorem rwl_r {κ : MI} {t : Int} {F : Nat → Int} (hF : ∀ x, 0 ≤ F x ∧ F x ≤ 1000000000000001) : ∀ n x, 0 ≤ rwl κ t F n x ∧ rwl κ t F n x ≤ 1000000000000001
  | 0, x => by unfold rwl; omega
  | n + 1, x => by
    unfold rwl
    split
    · exact stp_r (hF _) (rwl_r hF n) _ x
    · exact rwl_r hF n x
theorem Fr_r (κ : MI) : ∀ t x, 0 ≤ Fr κ t x ∧ Fr κ t x ≤ 1000000000000001
  | 0, x => by unfold Fr; split <;> omega
  | t + 1, x => by unfold Fr; exact rwl_r (Fr_r κ t) _ x
theorem rst_r {κ : MI} {t : Int} {s : Nat} {B : Nat → Int} (hB : ∀ x, 0 ≤ B x ∧ B x ≤ 1000000000000001) : ∀ c, 0 ≤ rst κ t s B c ∧ rst κ t s B c ≤ 1000000000000001
  | 0 => by unfold rst; omega
  | c + 1 => by
    unfold rst
    split
    · exact mor_r (rst_r hB c) (hB _)
    · exact rst_r hB c
theorem Rb_r (κ : MI) : ∀ u x, 0 ≤ Rb κ u x ∧ Rb κ u x ≤ 1000000000000001
  | 0, x => by unfold Rb; split <;> omega
  | u + 1, x => by
    unfold Rb
    split
    · exact rst_r (Rb_r κ u) _
    · omega
theorem Re_r (κ : MI) (t x : Nat) : 0 ≤ Re κ t x ∧ Re κ t x ≤ 1000000000000001 := Rb_r κ _ x

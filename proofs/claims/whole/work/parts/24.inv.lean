/-! THE PURE PART, 4: sums and searches; what the model's row keeps to; how the class's rows stand beside it -/
def z_sum : Nat → Int → (Int → Int) → Int
  | 0, _, _ => 0
  | n + 1, i, f => f i + z_sum n (i + 1) f
def z_find : Nat → Int → (Int → Bool) → Int
  | 0, _, _ => -1
  | n + 1, i, P => cond (P i) i (z_find n (i + 1) P)
def z_any : Nat → Int → (Int → Bool) → Bool
  | 0, _, _ => false
  | n + 1, i, P => P i || z_any n (i + 1) P
def z_all : Nat → Int → (Int → Bool) → Bool
  | 0, _, _ => true
  | n + 1, i, P => P i && z_all n (i + 1) P
/-- bits i .. i + n - 1 put into acc where P -/
def z_bor : Nat → Int → (Int → Bool) → Int → Int
  | 0, _, _, acc => acc
  | n + 1, i, P, acc => z_bor n (i + 1) P (cond (P i) (i_or acc (i_shl 1 i)) acc)
def z_cnt : Nat → Int → (Int → Bool) → Int
  | 0, _, _ => 0
  | n + 1, i, P => zb (P i) + z_cnt n (i + 1) P
theorem z_sum_eq {f g : Int → Int} : ∀ (n : Nat) (i : Int), (∀ k, i ≤ k → k < i + n → f k = g k) → z_sum n i f = z_sum n i g
  | 0, _, _ => rfl
  | n + 1, i, h => by
    show f i + z_sum n (i + 1) f = g i + z_sum n (i + 1) g
    rw [h i (by omega) (by omega), z_sum_eq n (i + 1) (fun k h1 h2 => h k (by omega) (by omega))]
theorem z_find_eq {P R : Int → Bool} : ∀ (n : Nat) (i : Int), (∀ k, i ≤ k → k < i + n → P k = R k) → z_find n i P = z_find n i R
  | 0, _, _ => rfl
  | n + 1, i, h => by
    show cond (P i) i (z_find n (i + 1) P) = cond (R i) i (z_find n (i + 1) R)
    rw [h i (by omega) (by omega), z_find_eq n (i + 1) (fun k h1 h2 => h k (by omega) (by omega))]
theorem z_any_eq {P R : Int → Bool} : ∀ (n : Nat) (i : Int), (∀ k, i ≤ k → k < i + n → P k = R k) → z_any n i P = z_any n i R
  | 0, _, _ => rfl
  | n + 1, i, h => by
    show (P i || z_any n (i + 1) P) = (R i || z_any n (i + 1) R)
    rw [h i (by omega) (by omega), z_any_eq n (i + 1) (fun k h1 h2 => h k (by omega) (by omega))]
theorem z_all_eq {P R : Int → Bool} : ∀ (n : Nat) (i : Int), (∀ k, i ≤ k → k < i + n → P k = R k) → z_all n i P = z_all n i R
  | 0, _, _ => rfl
  | n + 1, i, h => by
    show (P i && z_all n (i + 1) P) = (R i && z_all n (i + 1) R)
    rw [h i (by omega) (by omega), z_all_eq n (i + 1) (fun k h1 h2 => h k (by omega) (by omega))]
theorem z_bor_eq {P R : Int → Bool} : ∀ (n : Nat) (i acc : Int), (∀ k, i ≤ k → k < i + n → P k = R k) → z_bor n i P acc = z_bor n i R acc
  | 0, _, _, _ => rfl
  | n + 1, i, acc, h => by
    show z_bor n (i + 1) P (cond (P i) _ _) = z_bor n (i + 1) R (cond (R i) _ _)
    rw [h i (by omega) (by omega), z_bor_eq n (i + 1) _ (fun k h1 h2 => h k (by omega) (by omega))]
theorem z_cnt_eq {P R : Int → Bool} : ∀ (n : Nat) (i : Int), (∀ k, i ≤ k → k < i + n → P k = R k) → z_cnt n i P = z_cnt n i R
  | 0, _, _ => rfl
  | n + 1, i, h => by
    show zb (P i) + z_cnt n (i + 1) P = zb (R i) + z_cnt n (i + 1) R
    rw [h i (by omega) (by omega), z_cnt_eq n (i + 1) (fun k h1 h2 => h k (by omega) (by omega))]
/-- what is found lies in the range and is so; if nothing is found nothing is so -/
theorem z_find_in (P : Int → Bool) : ∀ (n : Nat) (i : Int), z_find n i P = -1 ∨ (i ≤ z_find n i P ∧ z_find n i P < i + n ∧ P (z_find n i P) = true)
  | 0, _ => Or.inl rfl
  | n + 1, i => by
    show cond (P i) i (z_find n (i + 1) P) = -1 ∨ (i ≤ cond (P i) i (z_find n (i + 1) P) ∧ cond (P i) i (z_find n (i + 1) P) < i + (n + 1 : Nat) ∧ P (cond (P i) i (z_find n (i + 1) P)) = true)
    cases hP : P i with
    | true => exact Or.inr ⟨Int.le_refl _, by show i < _; omega, hP⟩
    | false =>
      rcases z_find_in P n (i + 1) with h | ⟨h1, h2, h3⟩
      · exact Or.inl h
      · exact Or.inr ⟨by show i ≤ z_find n (i + 1) P; omega, by show z_find n (i + 1) P < _; omega, h3⟩
theorem z_find_no {P : Int → Bool} : ∀ (n : Nat) (i : Int), (∀ k, i ≤ k → k < i + n → P k = false) → z_find n i P = -1
  | 0, _, _ => rfl
  | n + 1, i, h => by
    show cond (P i) i (z_find n (i + 1) P) = -1
    rw [h i (by omega) (by omega)]
    exact z_find_no n (i + 1) (fun k h1 h2 => h k (by omega) (by omega))
theorem z_find_none {P : Int → Bool} : ∀ (n : Nat) (i : Int), 0 ≤ i → z_find n i P = -1 → ∀ k, i ≤ k → k < i + n → P k = false
  | 0, _, _, _, k, h1, h2 => by omega
  | n + 1, i, h0, h, k, h1, h2 => by
    have h' : cond (P i) i (z_find n (i + 1) P) = -1 := h
    cases hP : P i with
    | true => rw [hP] at h'; exact absurd h' (by show i ≠ -1; omega)
    | false =>
      rw [hP] at h'
      by_cases e : k = i
      · rw [e]; exact hP
      · exact z_find_none n (i + 1) (by omega) h' k (by omega) (by omega)
/-- a longer search, if there is nothing behind -/
theorem z_find_more {P : Int → Bool} : ∀ (n m : Nat) (i : Int), (∀ k, i + n ≤ k → k < i + n + m → P k = false) → z_find (n + m) i P = z_find n i P
  | 0, m, i, h => by rw [Nat.zero_add]; exact z_find_no m i (fun k h1 h2 => h k (by omega) (by omega))
  | n + 1, m, i, h => by
    rw [show n + 1 + m = (n + m) + 1 by omega]
    show cond (P i) i (z_find (n + m) (i + 1) P) = cond (P i) i (z_find n (i + 1) P)
    rw [z_find_more n m (i + 1) (fun k h1 h2 => h k (by omega) (by omega))]
/-- the one that is found, if it is the only one -/
theorem z_find_one {P : Int → Bool} {q : Int} : ∀ (n : Nat) (i : Int), i ≤ q → q < i + n → P q = true → (∀ k, i ≤ k → k < q → P k = false) → z_find n i P = q
  | 0, _, h1, h2, _, _ => by omega
  | n + 1, i, h1, h2, h3, h4 => by
    show cond (P i) i (z_find n (i + 1) P) = q
    by_cases e : q = i
    · rw [← e, h3]; rfl
    · rw [h4 i (by omega) (by omega)]
      exact z_find_one n (i + 1) (by omega) (by omega) h3 (fun k a b => h4 k (by omega) b)
theorem z_any_iff {P : Int → Bool} : ∀ (n : Nat) (i : Int), z_any n i P = true ↔ ∃ k, i ≤ k ∧ k < i + n ∧ P k = true
  | 0, i => ⟨fun h => (by cases h), fun ⟨k, h1, h2, _⟩ => by omega⟩
  | n + 1, i => by
    show (P i || z_any n (i + 1) P) = true ↔ _
    rw [Bool.or_eq_true, z_any_iff n (i + 1)]
    constructor
    · rintro (h | ⟨k, h1, h2, h3⟩)
      · exact ⟨i, by omega, by omega, h⟩
      · exact ⟨k, by omega, by omega, h3⟩
    · rintro ⟨k, h1, h2, h3⟩
      by_cases e : k = i
      · left; rw [← e]; exact h3
      · right; exact ⟨k, by omega, by omega, h3⟩
theorem z_all_iff {P : Int → Bool} : ∀ (n : Nat) (i : Int), z_all n i P = true ↔ ∀ k, i ≤ k → k < i + n → P k = true
  | 0, i => ⟨fun _ k h1 h2 => by omega, fun _ => rfl⟩
  | n + 1, i => by
    show (P i && z_all n (i + 1) P) = true ↔ _
    rw [Bool.and_eq_true, z_all_iff n (i + 1)]
    constructor
    · rintro ⟨h, h'⟩ k h1 h2
      by_cases e : k = i
      · rw [e]; exact h
      · exact h' k (by omega) (by omega)
    · intro h
      exact ⟨h i (by omega) (by omega), fun k h1 h2 => h k (by omega) (by omega)⟩
theorem z_sum_le {f : Int → Int} {b : Int} : ∀ (n : Nat) (i : Int), (∀ k, i ≤ k → k < i + n → -b ≤ f k ∧ f k ≤ b) → -(b * n) ≤ z_sum n i f ∧ z_sum n i f ≤ b * n
  | 0, _, _ => by show -(b * 0) ≤ 0 ∧ 0 ≤ b * 0; omega
  | n + 1, i, h => by
    have h1 := h i (by omega) (by omega)
    have h2 := z_sum_le n (i + 1) (fun k a c => h k (by omega) (by omega))
    show -(b * ((n + 1 : Nat) : Int)) ≤ f i + z_sum n (i + 1) f ∧ f i + z_sum n (i + 1) f ≤ b * ((n + 1 : Nat) : Int)
    rw [Int.natCast_succ, Int.mul_add, Int.mul_one]
    omega
/-- a sum in which one is otherwise -/
theorem z_sum_one {f g : Int → Int} {q : Int} : ∀ (n : Nat) (i : Int), i ≤ q → q < i + n → (∀ k, i ≤ k → k < i + n → k ≠ q → f k = g k) → z_sum n i f = z_sum n i g - g q + f q
  | 0, _, h1, h2, _ => by omega
  | n + 1, i, h1, h2, h => by
    show f i + z_sum n (i + 1) f = g i + z_sum n (i + 1) g - g q + f q
    by_cases e : q = i
    · rw [z_sum_eq (f := f) (g := g) n (i + 1) (fun k a b => h k (by omega) (by omega) (by omega)), e]; omega
    · rw [z_sum_one (f := f) (g := g) n (i + 1) (by omega) (by omega) (fun k a b c => h k (by omega) (by omega) c), h i (by omega) (by omega) (fun c => e c.symm)]; omega
/-- the model's row: its numbers and their bounds -/
def m_ok (A : Int → Int) : Prop :=
  (0 ≤ A 0 ∧ A 0 ≤ 10) ∧ (0 ≤ A 1 ∧ A 1 ≤ 10) ∧ (0 ≤ A 2 ∧ A 2 ≤ 12) ∧ (0 ≤ A 3 ∧ A 3 ≤ 9999) ∧ (0 ≤ A 4 ∧ A 4 ≤ 30270) ∧ (0 ≤ A 5 ∧ A 5 ≤ 4) ∧ (-1 ≤ A 6 ∧ A 6 < A 5) ∧ (0 ≤ A 7 ∧ A 7 ≤ 30) ∧ (0 ≤ A 8 ∧ A 8 ≤ 15) ∧ (0 ≤ A 9 ∧ A 9 ≤ 8) ∧ (0 ≤ A 10 ∧ A 10 ≤ 8) ∧ (0 ≤ A 11 ∧ A 11 ≤ 20) ∧
  (∀ k, 0 ≤ k → k < A 0 → (0 ≤ A (12 + 2 * k) ∧ A (12 + 2 * k) ≤ 3) ∧ (0 ≤ A (12 + 2 * k + 1) ∧ A (12 + 2 * k + 1) ≤ 9)) ∧
  (∀ p, 0 ≤ p → p < A 1 → (1 ≤ A (32 + 5 * p) ∧ A (32 + 5 * p) ≤ 9) ∧ (1 ≤ A (32 + 5 * p + 1) ∧ A (32 + 5 * p + 1) ≤ 9) ∧ (0 ≤ A (32 + 5 * p + 2) ∧ A (32 + 5 * p + 2) ≤ 17) ∧ (-1 ≤ A (32 + 5 * p + 3) ∧ A (32 + 5 * p + 3) < A 0) ∧ (0 ≤ A (32 + 5 * p + 4) ∧ A (32 + 5 * p + 4) ≤ 2)) ∧
  (∀ n, 0 ≤ n → n < A 2 → (0 ≤ A (82 + 2 * n) ∧ A (82 + 2 * n) ≤ 9999) ∧ (0 ≤ A (82 + 2 * n + 1) ∧ A (82 + 2 * n + 1) ≤ 99)) ∧
  (∀ k, 0 ≤ k → k < A 11 → (0 ≤ A (106 + 2 * k) ∧ A (106 + 2 * k) ≤ 9) ∧ (0 ≤ A (106 + 2 * k + 1) ∧ A (106 + 2 * k + 1) ≤ 9999)) ∧
  (∀ k, 0 ≤ k → k < A 9 → (0 ≤ A (146 + 2 * k) ∧ A (146 + 2 * k) ≤ 9) ∧ (0 ≤ A (146 + 2 * k + 1) ∧ A (146 + 2 * k + 1) ≤ 9)) ∧
  (∀ k, 0 ≤ k → k < A 10 → (0 ≤ A (162 + 3 * k) ∧ A (162 + 3 * k) ≤ 9) ∧ (0 ≤ A (162 + 3 * k + 1) ∧ A (162 + 3 * k + 1) ≤ 9999) ∧ (-1 ≤ A (162 + 3 * k + 2) ∧ A (162 + 3 * k + 2) ≤ 1))
/-- no two on one seat -/
def m_inj (A : Int → Int) : Prop := ∀ p q, 0 ≤ p → p < A 1 → 0 ≤ q → q < A 1 → A (32 + 5 * p + 3) = A (32 + 5 * q + 3) → p = q ∨ A (32 + 5 * p + 3) = -1
/-- a kept step of the model at x, beside the class's kept row at y -/
def c_st (B A : Int → Int) (x y : Int) : Prop :=
  (0 ≤ A x ∧ A x ≤ A 1) ∧
  (∀ p, 0 ≤ p → p < A x → (B (y + p) = A (x + 5 + 2 * p) ∧ B (y + 10 + p) = A (x + 6 + 2 * p)) ∧ (-1 ≤ A (x + 5 + 2 * p) ∧ A (x + 5 + 2 * p) < A 0) ∧ (0 ≤ A (x + 6 + 2 * p) ∧ A (x + 6 + 2 * p) ≤ 2)) ∧
  (∀ p, A x ≤ p → p < 10 → B (y + p) = -1 ∧ B (y + 10 + p) = 0) ∧
  (∀ p q, 0 ≤ p → p < A x → 0 ≤ q → q < A x → A (x + 5 + 2 * p) = A (x + 5 + 2 * q) → p = q ∨ A (x + 5 + 2 * p) = -1) ∧
  (B (y + 20) = A (x + 1) ∧ 0 ≤ A (x + 1) ∧ A (x + 1) ≤ 15) ∧ (B (y + 21) = A (x + 2) ∧ 0 ≤ A (x + 2) ∧ A (x + 2) ≤ 9999) ∧ (B (y + 22) = A (x + 3) ∧ 0 ≤ A (x + 3) ∧ A (x + 3) ≤ 30270) ∧ (B (y + 23) = A (x + 4) ∧ 0 ≤ A (x + 4) ∧ A (x + 4) ≤ A 11) ∧
  (∀ k, 0 ≤ k → k < 2 * A (x + 4) → A (x + 25 + k) = A (106 + k))
/-- the class's rows (h 0 the House, h 9 the Moment, h 14 the Steps, h 16 what was Told) beside the model's -/
def c_hs (h : ZG) (A : Int → Int) : Prop :=
  h 0 0 = A 0 ∧ h 0 3 = A 1 ∧ h 0 7 = A 2 ∧ h 0 10 = A 5 ∧ h 0 12 = A 6 ∧
  (∀ k, 0 ≤ k → k < A 0 → h 1 k = A (12 + 2 * k) ∧ h 2 k = A (12 + 2 * k + 1)) ∧
  (∀ p, 0 ≤ p → p < A 1 → h 3 p = A (32 + 5 * p) ∧ h 4 p = A (32 + 5 * p + 1) ∧ h 5 p = A (32 + 5 * p + 2)) ∧
  (∀ n, 0 ≤ n → n < A 2 → h 6 n = A (82 + 2 * n) ∧ h 7 n = A (82 + 2 * n + 1))
def c_mo (h : ZG) (A : Int → Int) : Prop :=
  (h 9 2 = A 8 ∧ h 9 3 = A 3 ∧ h 9 4 = A 4 ∧ h 9 5 = A 11) ∧
  (∀ p, 0 ≤ p → p < A 1 → h 10 p = A (32 + 5 * p + 3) ∧ h 11 p = A (32 + 5 * p + 4)) ∧
  (∀ p, A 1 ≤ p → p < 10 → h 10 p = -1 ∧ h 11 p = 0) ∧
  (∀ k, 0 ≤ k → k < A 11 → h 12 k = A (106 + 2 * k) ∧ h 13 k = A (106 + 2 * k + 1))
def c_to (h : ZG) (A : Int → Int) : Prop :=
  h 16 0 = A 9 ∧ (∀ k, 0 ≤ k → k < A 9 → h 17 k = A (146 + 2 * k) ∧ h 18 k = A (146 + 2 * k + 1)) ∧
  h 16 3 = A 10 ∧ (∀ k, 0 ≤ k → k < A 10 → h 19 k = A (162 + 3 * k) ∧ h 20 k = A (162 + 3 * k + 1) ∧ h 21 k = A (162 + 3 * k + 2))
def c_sp (h : ZG) (A : Int → Int) : Prop :=
  h 14 2 = A 7 ∧ (0 ≤ h 14 1 ∧ h 14 1 < 30) ∧
  (∀ j, 0 ≤ j → j < A 7 → c_st (h 15) A (186 + 65 * j) (24 * ((h 14 1 - A 7 + j) % 30))) ∧
  (∀ i j, 0 ≤ i → i ≤ j → j < A 7 → A (186 + 65 * i + 4) ≤ A (186 + 65 * j + 4))
/-- one side of the world: the present one (rows 11 .., 81) or the image (rows 33 .., 82) -/
def c_sd (h : ZG) (A : Int → Int) : Prop := m_ok A ∧ m_inj A ∧ c_hs h A ∧ c_mo h A ∧ c_to h A ∧ c_sp h A
abbrev c_now (G : ZG) : Prop := c_sd (fun r => G (11 + r)) (G 81)
abbrev c_img (G : ZG) : Prop := c_sd (fun r => G (33 + r)) (G 82)

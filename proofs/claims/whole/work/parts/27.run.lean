/-! THE PURE PART, 7: laws run -/
abbrev ZE : Type := Int × (Int → Int) × Int × (Int → Int)
def e_stp (N : Int → Int) (o v : Int) (e : ZE) : ZE :=
  if o = 0 then (e.1 + 1, z_ro e.2.1 e.1 v, e.2.2.1, e.2.2.2)
  else if o = 1 then (e.1 + 1, z_ro e.2.1 e.1 (N v), e.2.2.1, e.2.2.2)
  else if o = 2 then (e.1 - 2, z_ro e.2.1 (e.1 - 3) (e_mid (e.2.1 (e.1 - 3)) (e.2.1 (e.1 - 2)) (e.2.1 (e.1 - 1))), e.2.2.1, e.2.2.2)
  else if o = 3 then (e.1, z_ro e.2.1 (e.1 - 1) (-e.2.1 (e.1 - 1)), e.2.2.1, e.2.2.2)
  else if o < 10 then (e.1 - 1, z_ro e.2.1 (e.1 - 2) (e_two o (e.2.1 (e.1 - 2)) (e.2.1 (e.1 - 1))), e.2.2.1, e.2.2.2)
  else if o < 20 then (e.1 - 2, e.2.1, e.2.2.1 + 1, z_ro e.2.2.2 e.2.2.1 (zb (e_ask o (e.2.1 (e.1 - 2)) (e.2.1 (e.1 - 1)))))
  else if o = 20 then (e.1, e.2.1, e.2.2.1, z_ro e.2.2.2 (e.2.2.1 - 1) (1 - e.2.2.2 (e.2.2.1 - 1)))
  else if o = 21 then (e.1, e.2.1, e.2.2.1 - 1, z_ro e.2.2.2 (e.2.2.1 - 2) (i_and (e.2.2.2 (e.2.2.1 - 2)) (e.2.2.2 (e.2.2.1 - 1))))
  else (e.1, e.2.1, e.2.2.1 - 1, z_ro e.2.2.2 (e.2.2.1 - 2) (i_or (e.2.2.2 (e.2.2.1 - 2)) (e.2.2.2 (e.2.2.1 - 1))))
/-- an operation that may stand at these depths; which names may -/
def e_wo (al : Int → Bool) (o v n m : Int) : Prop :=
  (o = 0 ∧ 0 ≤ v ∧ v ≤ 9999 ∧ n + m ≤ 62) ∨ (o = 1 ∧ al v = true ∧ 0 ≤ v ∧ v ≤ 9 ∧ n + m ≤ 62) ∨ (o = 2 ∧ 3 ≤ n) ∨ (o = 3 ∧ 1 ≤ n) ∨ ((o = 4 ∨ o = 5 ∨ o = 6 ∨ o = 7 ∨ o = 8) ∧ 2 ≤ n) ∨ ((o = 10 ∨ o = 11 ∨ o = 12 ∨ o = 13 ∨ o = 14 ∨ o = 15) ∧ n = 2) ∨ (o = 20 ∧ n = 0 ∧ 1 ≤ m) ∨ ((o = 21 ∨ o = 22) ∧ n = 0 ∧ 2 ≤ m)
def e_n (o n : Int) : Int := if o < 2 then n + 1 else if o = 2 then n - 2 else if o = 3 then n else if o < 10 then n - 1 else if o < 20 then n - 2 else n
def e_m (o m : Int) : Int := if o < 10 then m else if o < 20 then m + 1 else if o = 20 then m else m - 1
/-- k operations from the i-th on, of the code at c in X -/
def e_run (N X : Int → Int) (c : Int) : Nat → Int → ZE → ZE
  | 0, _, e => e
  | k + 1, i, e => e_run N X c k (i + 1) (e_stp N (X (c + 2 * i)) (X (c + 2 * i + 1)) e)
def e_wf (al : Int → Bool) (X : Int → Int) (c nf mf : Int) : Nat → Int → Int → Int → Prop
  | 0, _, n, m => n = nf ∧ m = mf
  | k + 1, i, n, m => e_wo al (X (c + 2 * i)) (X (c + 2 * i + 1)) n m ∧ e_wf al X c nf mf k (i + 1) (e_n (X (c + 2 * i)) n) (e_m (X (c + 2 * i)) m)
/-- what a law's code is worth, what it says -/
def e_val (N X : Int → Int) (c f t : Int) : Int := (e_run N X c (t - f).toNat f (0, fun _ => 0, 0, fun _ => 0)).2.1 0
def e_tru (N X : Int → Int) (c f t : Int) : Int := (e_run N X c (t - f).toNat f (0, fun _ => 0, 0, fun _ => 0)).2.2.2 0
/-- numbers in their bounds -/
def e_in (e : ZE) : Prop := 0 ≤ e.1 ∧ 0 ≤ e.2.2.1 ∧ e.1 + e.2.2.1 ≤ 63 ∧ (∀ k, 0 ≤ k → k < e.1 → e_b (e.2.1 k)) ∧ (∀ k, 0 ≤ k → k < e.2.2.1 → e.2.2.2 k = 0 ∨ e.2.2.2 k = 1)
theorem e_ro_b {V : Int → Int} {n n' k x : Int} (h : ∀ j, 0 ≤ j → j < n → e_b (V j)) (hx : e_b x) (hn : n' ≤ n ∨ n' ≤ n + 1 ∧ k = n) : ∀ j, 0 ≤ j → j < n' → e_b (z_ro V k x j) := by
  intro j h1 h2
  unfold z_ro
  split
  · exact hx
  · exact h j h1 (by omega)
theorem e_ro_t {V : Int → Int} {n n' k x : Int} (h : ∀ j, 0 ≤ j → j < n → V j = 0 ∨ V j = 1) (hx : x = 0 ∨ x = 1) (hn : n' ≤ n ∨ n' ≤ n + 1 ∧ k = n) : ∀ j, 0 ≤ j → j < n' → z_ro V k x j = 0 ∨ z_ro V k x j = 1 := by
  intro j h1 h2
  unfold z_ro
  split
  · exact hx
  · exact h j h1 (by omega)
theorem e_zb01 (b : Bool) : zb b = 0 ∨ zb b = 1 := by cases b <;> simp [zb]
theorem e_and01 {a b : Int} (ha : a = 0 ∨ a = 1) (hb : b = 0 ∨ b = 1) : i_and a b = 0 ∨ i_and a b = 1 := by rcases ha with rfl | rfl <;> rcases hb with rfl | rfl <;> decide
theorem e_or01 {a b : Int} (ha : a = 0 ∨ a = 1) (hb : b = 0 ∨ b = 1) : i_or a b = 0 ∨ i_or a b = 1 := by rcases ha with rfl | rfl <;> rcases hb with rfl | rfl <;> decide

theorem e_s0 (N : Int → Int) (v : Int) (e : ZE) : e_stp N 0 v e = (e.1 + 1, z_ro e.2.1 e.1 v, e.2.2.1, e.2.2.2) := by simp [e_stp]
theorem e_s1 (N : Int → Int) (v : Int) (e : ZE) : e_stp N 1 v e = (e.1 + 1, z_ro e.2.1 e.1 (N v), e.2.2.1, e.2.2.2) := by simp [e_stp]
theorem e_s2 (N : Int → Int) (v : Int) (e : ZE) : e_stp N 2 v e = (e.1 - 2, z_ro e.2.1 (e.1 - 3) (e_mid (e.2.1 (e.1 - 3)) (e.2.1 (e.1 - 2)) (e.2.1 (e.1 - 1))), e.2.2.1, e.2.2.2) := by simp [e_stp]
theorem e_s3 (N : Int → Int) (v : Int) (e : ZE) : e_stp N 3 v e = (e.1, z_ro e.2.1 (e.1 - 1) (-e.2.1 (e.1 - 1)), e.2.2.1, e.2.2.2) := by simp [e_stp]
theorem e_s4 (N : Int → Int) (v : Int) (e : ZE) : e_stp N 4 v e = (e.1 - 1, z_ro e.2.1 (e.1 - 2) (e_two 4 (e.2.1 (e.1 - 2)) (e.2.1 (e.1 - 1))), e.2.2.1, e.2.2.2) := by simp [e_stp]
theorem e_s5 (N : Int → Int) (v : Int) (e : ZE) : e_stp N 5 v e = (e.1 - 1, z_ro e.2.1 (e.1 - 2) (e_two 5 (e.2.1 (e.1 - 2)) (e.2.1 (e.1 - 1))), e.2.2.1, e.2.2.2) := by simp [e_stp]
theorem e_s6 (N : Int → Int) (v : Int) (e : ZE) : e_stp N 6 v e = (e.1 - 1, z_ro e.2.1 (e.1 - 2) (e_two 6 (e.2.1 (e.1 - 2)) (e.2.1 (e.1 - 1))), e.2.2.1, e.2.2.2) := by simp [e_stp]
theorem e_s7 (N : Int → Int) (v : Int) (e : ZE) : e_stp N 7 v e = (e.1 - 1, z_ro e.2.1 (e.1 - 2) (e_two 7 (e.2.1 (e.1 - 2)) (e.2.1 (e.1 - 1))), e.2.2.1, e.2.2.2) := by simp [e_stp]
theorem e_s8 (N : Int → Int) (v : Int) (e : ZE) : e_stp N 8 v e = (e.1 - 1, z_ro e.2.1 (e.1 - 2) (e_two 8 (e.2.1 (e.1 - 2)) (e.2.1 (e.1 - 1))), e.2.2.1, e.2.2.2) := by simp [e_stp]
theorem e_s10 (N : Int → Int) (v : Int) (e : ZE) : e_stp N 10 v e = (e.1 - 2, e.2.1, e.2.2.1 + 1, z_ro e.2.2.2 e.2.2.1 (zb (e_ask 10 (e.2.1 (e.1 - 2)) (e.2.1 (e.1 - 1))))) := by simp [e_stp]
theorem e_s11 (N : Int → Int) (v : Int) (e : ZE) : e_stp N 11 v e = (e.1 - 2, e.2.1, e.2.2.1 + 1, z_ro e.2.2.2 e.2.2.1 (zb (e_ask 11 (e.2.1 (e.1 - 2)) (e.2.1 (e.1 - 1))))) := by simp [e_stp]
theorem e_s12 (N : Int → Int) (v : Int) (e : ZE) : e_stp N 12 v e = (e.1 - 2, e.2.1, e.2.2.1 + 1, z_ro e.2.2.2 e.2.2.1 (zb (e_ask 12 (e.2.1 (e.1 - 2)) (e.2.1 (e.1 - 1))))) := by simp [e_stp]
theorem e_s13 (N : Int → Int) (v : Int) (e : ZE) : e_stp N 13 v e = (e.1 - 2, e.2.1, e.2.2.1 + 1, z_ro e.2.2.2 e.2.2.1 (zb (e_ask 13 (e.2.1 (e.1 - 2)) (e.2.1 (e.1 - 1))))) := by simp [e_stp]
theorem e_s14 (N : Int → Int) (v : Int) (e : ZE) : e_stp N 14 v e = (e.1 - 2, e.2.1, e.2.2.1 + 1, z_ro e.2.2.2 e.2.2.1 (zb (e_ask 14 (e.2.1 (e.1 - 2)) (e.2.1 (e.1 - 1))))) := by simp [e_stp]
theorem e_s15 (N : Int → Int) (v : Int) (e : ZE) : e_stp N 15 v e = (e.1 - 2, e.2.1, e.2.2.1 + 1, z_ro e.2.2.2 e.2.2.1 (zb (e_ask 15 (e.2.1 (e.1 - 2)) (e.2.1 (e.1 - 1))))) := by simp [e_stp]
theorem e_s20 (N : Int → Int) (v : Int) (e : ZE) : e_stp N 20 v e = (e.1, e.2.1, e.2.2.1, z_ro e.2.2.2 (e.2.2.1 - 1) (1 - e.2.2.2 (e.2.2.1 - 1))) := by simp [e_stp]
theorem e_s21 (N : Int → Int) (v : Int) (e : ZE) : e_stp N 21 v e = (e.1, e.2.1, e.2.2.1 - 1, z_ro e.2.2.2 (e.2.2.1 - 2) (i_and (e.2.2.2 (e.2.2.1 - 2)) (e.2.2.2 (e.2.2.1 - 1)))) := by simp [e_stp]
theorem e_s22 (N : Int → Int) (v : Int) (e : ZE) : e_stp N 22 v e = (e.1, e.2.1, e.2.2.1 - 1, z_ro e.2.2.2 (e.2.2.1 - 2) (i_or (e.2.2.2 (e.2.2.1 - 2)) (e.2.2.2 (e.2.2.1 - 1)))) := by simp [e_stp]
set_option maxHeartbeats 1000000 in
theorem e_stp_in {al : Int → Bool} {N : Int → Int} {o v : Int} {e : ZE} (hN : ∀ k, al k = true → e_b (N k)) (hw : e_wo al o v e.1 e.2.2.1) (h : e_in e) : e_in (e_stp N o v e) ∧ (e_stp N o v e).1 = e_n o e.1 ∧ (e_stp N o v e).2.2.1 = e_m o e.2.2.1 := by
  obtain ⟨n, V, m, B⟩ := e
  obtain ⟨h1, h2, h3, h4, h5⟩ := h
  dsimp only at h1 h2 h3 h4 h5 hw
  rcases hw with ⟨rfl, w1, w2, w3⟩ | ⟨rfl, w1, w2, w3, w4⟩ | ⟨rfl, w⟩ | ⟨rfl, w⟩ | ⟨ho, w⟩ | ⟨ho, w⟩ | ⟨rfl, w, w2⟩ | ⟨ho, w, w2⟩
  · rw [e_s0]
    exact ⟨⟨by show 0 ≤ n + 1; omega, h2, by show n + 1 + m ≤ 63; omega, e_ro_b h4 ⟨by omega, by omega⟩ (Or.inr ⟨Int.le_refl _, rfl⟩), h5⟩, rfl, rfl⟩
  · rw [e_s1]
    exact ⟨⟨by show 0 ≤ n + 1; omega, h2, by show n + 1 + m ≤ 63; omega, e_ro_b h4 (hN _ w1) (Or.inr ⟨Int.le_refl _, rfl⟩), h5⟩, rfl, rfl⟩
  · rw [e_s2]
    exact ⟨⟨by show 0 ≤ n - 2; omega, h2, by show n - 2 + m ≤ 63; omega, e_ro_b h4 (e_mid_b (h4 _ (by omega) (by omega)) (h4 _ (by omega) (by omega)) (h4 _ (by omega) (by omega))) (Or.inl (by show n - 2 ≤ n; omega)), h5⟩, rfl, rfl⟩
  · rw [e_s3]
    have q := h4 (n - 1) (by omega) (by omega)
    exact ⟨⟨h1, h2, h3, e_ro_b h4 ⟨by show -1000000 ≤ -V (n - 1); omega, by show -V (n - 1) ≤ 1000000; omega⟩ (Or.inl (Int.le_refl _)), h5⟩, rfl, rfl⟩
  · rcases ho with rfl | rfl | rfl | rfl | rfl
    all_goals (first | rw [e_s4] | rw [e_s5] | rw [e_s6] | rw [e_s7] | rw [e_s8])
    all_goals exact ⟨⟨by show 0 ≤ n - 1; omega, h2, by show n - 1 + m ≤ 63; omega, e_ro_b h4 (e_two_b (h4 _ (by omega) (by omega))) (Or.inl (by show n - 1 ≤ n; omega)), h5⟩, rfl, rfl⟩
  · rcases ho with rfl | rfl | rfl | rfl | rfl | rfl
    all_goals (first | rw [e_s10] | rw [e_s11] | rw [e_s12] | rw [e_s13] | rw [e_s14] | rw [e_s15])
    all_goals exact ⟨⟨by show 0 ≤ n - 2; omega, by show 0 ≤ m + 1; omega, by show n - 2 + (m + 1) ≤ 63; omega, fun k a b => h4 k a (by have b' : k < n - 2 := b; omega), e_ro_t h5 (e_zb01 _) (Or.inr ⟨Int.le_refl _, rfl⟩)⟩, rfl, rfl⟩
  · rw [e_s20]
    exact ⟨⟨h1, h2, h3, h4, e_ro_t h5 (by rcases h5 (m - 1) (by omega) (by omega) with q | q <;> (show 1 - B (m - 1) = 0 ∨ 1 - B (m - 1) = 1; omega)) (Or.inl (Int.le_refl _))⟩, rfl, rfl⟩
  · rcases ho with rfl | rfl
    · rw [e_s21]
      exact ⟨⟨h1, by show 0 ≤ m - 1; omega, by show n + (m - 1) ≤ 63; omega, h4, e_ro_t h5 (e_and01 (h5 (m - 2) (by omega) (by omega)) (h5 (m - 1) (by omega) (by omega))) (Or.inl (by show m - 1 ≤ m; omega))⟩, rfl, rfl⟩
    · rw [e_s22]
      exact ⟨⟨h1, by show 0 ≤ m - 1; omega, by show n + (m - 1) ≤ 63; omega, h4, e_ro_t h5 (e_or01 (h5 (m - 2) (by omega) (by omega)) (h5 (m - 1) (by omega) (by omega))) (Or.inl (by show m - 1 ≤ m; omega))⟩, rfl, rfl⟩
/-- the model's stacks beside the run -/
def e_rm (e : ZE) (s : ZG × ZG) : Prop := (∀ k, 0 ≤ k → k < e.1 → s.2 87 k = e.2.1 k) ∧ (∀ k, 0 ≤ k → k < e.2.2.1 → s.1 88 k = e.2.2.2 k)
/-- the class's stack beside the run -/
def e_rc (e : ZE) (s : ZG × ZG) : Prop := (∀ k, 0 ≤ k → k < e.2.2.1 → s.1 63 k = e.2.2.2 k) ∧ (∀ k, 0 ≤ k → k < e.1 → s.1 63 (e.2.2.1 + k) = e.2.1 k)
theorem e_ro_q {A V : Int → Int} {n n' i x x' : Int} (h : ∀ k, 0 ≤ k → k < n → A k = V k) (hx : x = x') (hn : n' ≤ n ∨ n' ≤ n + 1 ∧ i = n) : ∀ k, 0 ≤ k → k < n' → z_ro A i x k = z_ro V i x' k := by
  intro k a b
  unfold z_ro
  split
  · exact hx
  · exact h k a (by omega)

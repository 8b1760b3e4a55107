/-! THE PURE PART, 42: undo, the coupling -/
/-- what a row taken back is, cell by cell -/
theorem k_ub_f {A R : Int → Int} {x n : Int} (hx : 186 ≤ x ∧ x ≤ 2071) (h : k_ub (k_u0 A x) R x n) : R 7 = A 7 - 1 ∧ R 8 = A (x + 1) ∧ R 3 = A (x + 2) ∧ R 4 = A (x + 3) ∧ R 11 = A (x + 4) ∧ (∀ k, k ≠ 7 → k ≠ 8 → k ≠ 3 → k ≠ 4 → k ≠ 11 → k < 32 ∨ (82 ≤ k ∧ k < 106) ∨ 146 ≤ k → R k = A k) ∧ (∀ p, 0 ≤ p → p < 10 → R (32 + 5 * p) = A (32 + 5 * p) ∧ R (32 + 5 * p + 1) = A (32 + 5 * p + 1) ∧ R (32 + 5 * p + 2) = A (32 + 5 * p + 2)) ∧ (∀ p, 0 ≤ p → p < n → p < 10 → R (32 + 5 * p + 3) = (if p < A x then A (x + 5 + 2 * p) else -1) ∧ R (32 + 5 * p + 4) = (if p < A x then A (x + 6 + 2 * p) else 0)) ∧ (∀ k, 0 ≤ k → k < 40 → R (106 + k) = A (x + 25 + k)) := by
  obtain ⟨b1, b2, b3, b4⟩ := h
  have eo : ∀ k, k ≠ 7 → k ≠ 8 → k ≠ 3 → k ≠ 4 → k ≠ 11 → k_u0 A x k = A k := by
    intro k a b c e f
    unfold k_u0
    rw [z_ro_ne _ _ f, z_ro_ne _ _ e, z_ro_ne _ _ c, z_ro_ne _ _ b, z_ro_ne _ _ a]
  refine ⟨?_, ?_, ?_, ?_, ?_, fun k a b c e f g => ?_, fun p a b => ?_, fun p a b c => ?_, fun k a b => ?_⟩
  · rw [b1 7 (by omega)]; unfold k_u0
    rw [z_ro_ne _ _ (by omega), z_ro_ne _ _ (by omega), z_ro_ne _ _ (by omega), z_ro_ne _ _ (by omega), z_ro_eq]
  · rw [b1 8 (by omega)]; unfold k_u0
    rw [z_ro_ne _ _ (by omega), z_ro_ne _ _ (by omega), z_ro_ne _ _ (by omega), z_ro_eq]
  · rw [b1 3 (by omega)]; unfold k_u0
    rw [z_ro_ne _ _ (by omega), z_ro_ne _ _ (by omega), z_ro_eq]
  · rw [b1 4 (by omega)]; unfold k_u0
    rw [z_ro_ne _ _ (by omega), z_ro_eq]
  · rw [b1 11 (by omega)]; unfold k_u0
    rw [z_ro_eq]
  · rw [b1 k g, eo k a b c e f]
  · have := b2 p a b
    rw [eo (32 + 5 * p) (by omega) (by omega) (by omega) (by omega) (by omega), eo (32 + 5 * p + 1) (by omega) (by omega) (by omega) (by omega) (by omega), eo (32 + 5 * p + 2) (by omega) (by omega) (by omega) (by omega) (by omega)] at this
    exact this
  · have := b3 p a b
    rw [eo x (by omega) (by omega) (by omega) (by omega) (by omega), eo (x + 5 + 2 * p) (by omega) (by omega) (by omega) (by omega) (by omega), eo (x + 6 + 2 * p) (by omega) (by omega) (by omega) (by omega) (by omega)] at this
    exact this
  · rw [b4 k a b, eo _ (by omega) (by omega) (by omega) (by omega) (by omega)]

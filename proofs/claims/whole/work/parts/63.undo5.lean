/-! THE PURE PART, 43: undo, what is behind it -/
theorem k_bk_ne (G : ZG) (n y : Int) {r : Nat} (h : r ≠ 20 ∧ r ≠ 21 ∧ r ≠ 22 ∧ r ≠ 25) : k_bk G n y r = G r := by
  unfold k_bk
  rw [z_up_ne _ _ h.2.2.2, z_up_ne _ _ h.2.2.1, z_up_ne _ _ h.2.1, z_up_ne _ _ h.1]
theorem k_bk_f (G : ZG) (n y : Int) : k_bk G n y 20 2 = G 26 (y + 20) ∧ k_bk G n y 20 3 = G 26 (y + 21) ∧ k_bk G n y 20 4 = G 26 (y + 22) ∧ k_bk G n y 20 5 = G 26 (y + 23) ∧ (∀ p, 0 ≤ p → p < 10 → k_bk G n y 21 p = G 26 (y + p) ∧ k_bk G n y 22 p = G 26 (y + 10 + p)) ∧ k_bk G n y 25 1 = n ∧ k_bk G n y 25 2 = G 25 2 - 1 := by
  unfold k_bk
  refine ⟨?_, ?_, ?_, ?_, fun p a b => ⟨?_, ?_⟩, ?_, ?_⟩
  · rw [z_up_ne _ _ (by omega), z_up_ne _ _ (by omega), z_up_ne _ _ (by omega), z_up_eq, z_ro_ne _ _ (by omega), z_ro_ne _ _ (by omega), z_ro_ne _ _ (by omega), z_ro_eq]
  · rw [z_up_ne _ _ (by omega), z_up_ne _ _ (by omega), z_up_ne _ _ (by omega), z_up_eq, z_ro_ne _ _ (by omega), z_ro_ne _ _ (by omega), z_ro_eq]
    exact f_eq (by omega)
  · rw [z_up_ne _ _ (by omega), z_up_ne _ _ (by omega), z_up_ne _ _ (by omega), z_up_eq, z_ro_ne _ _ (by omega), z_ro_eq]
    exact f_eq (by omega)
  · rw [z_up_ne _ _ (by omega), z_up_ne _ _ (by omega), z_up_ne _ _ (by omega), z_up_eq, z_ro_eq]
    exact f_eq (by omega)
  · rw [z_up_ne _ _ (by omega), z_up_ne _ _ (by omega), z_up_eq]
    unfold z_cpr
    rw [if_pos (by omega)]
    exact f_eq (by omega)
  · rw [z_up_ne _ _ (by omega), z_up_eq]
    unfold z_cpr
    rw [if_pos (by omega)]
    exact f_eq (by omega)
  · rw [z_up_eq, z_ro_eq]
  · rw [z_up_eq, z_ro_ne _ _ (by omega), z_ro_eq]

/-! THE PURE PART, 63: bits up to 32; a duel, as a game of sets -/
theorem i_shr_bw (x : Int) : ∀ k : Nat, k < 32 → (iI (i_shr x k)).toBitVec = (iI x).toBitVec.sshiftRight k
  | 0, _ => by unfold i_shr; rw [iI_toInt]; rfl
  | 1, _ => by unfold i_shr; rw [iI_toInt]; rfl
  | 2, _ => by unfold i_shr; rw [iI_toInt]; rfl
  | 3, _ => by unfold i_shr; rw [iI_toInt]; rfl
  | 4, _ => by unfold i_shr; rw [iI_toInt]; rfl
  | 5, _ => by unfold i_shr; rw [iI_toInt]; rfl
  | 6, _ => by unfold i_shr; rw [iI_toInt]; rfl
  | 7, _ => by unfold i_shr; rw [iI_toInt]; rfl
  | 8, _ => by unfold i_shr; rw [iI_toInt]; rfl
  | 9, _ => by unfold i_shr; rw [iI_toInt]; rfl
  | 10, _ => by unfold i_shr; rw [iI_toInt]; rfl
  | 11, _ => by unfold i_shr; rw [iI_toInt]; rfl
  | 12, _ => by unfold i_shr; rw [iI_toInt]; rfl
  | 13, _ => by unfold i_shr; rw [iI_toInt]; rfl
  | 14, _ => by unfold i_shr; rw [iI_toInt]; rfl
  | 15, _ => by unfold i_shr; rw [iI_toInt]; rfl
  | 16, _ => by unfold i_shr; rw [iI_toInt]; rfl
  | 17, _ => by unfold i_shr; rw [iI_toInt]; rfl
  | 18, _ => by unfold i_shr; rw [iI_toInt]; rfl
  | 19, _ => by unfold i_shr; rw [iI_toInt]; rfl
  | 20, _ => by unfold i_shr; rw [iI_toInt]; rfl
  | 21, _ => by unfold i_shr; rw [iI_toInt]; rfl
  | 22, _ => by unfold i_shr; rw [iI_toInt]; rfl
  | 23, _ => by unfold i_shr; rw [iI_toInt]; rfl
  | 24, _ => by unfold i_shr; rw [iI_toInt]; rfl
  | 25, _ => by unfold i_shr; rw [iI_toInt]; rfl
  | 26, _ => by unfold i_shr; rw [iI_toInt]; rfl
  | 27, _ => by unfold i_shr; rw [iI_toInt]; rfl
  | 28, _ => by unfold i_shr; rw [iI_toInt]; rfl
  | 29, _ => by unfold i_shr; rw [iI_toInt]; rfl
  | 30, _ => by unfold i_shr; rw [iI_toInt]; rfl
  | 31, _ => by unfold i_shr; rw [iI_toInt]; rfl
  | k + 32, h => by omega
theorem i_shl_bw : ∀ k : Nat, k < 32 → (iI (i_shl 1 k)).toBitVec = 1#32 <<< k := by decide +kernel
theorem i_hasw (x : Int) (k : Nat) (hk : k < 32) : i_has x k = (iI x).toBitVec.getLsbD k := by
  have h1 : (iI (i_and (i_shr x k) 1)).toBitVec.getLsbD 0 = (iI x).toBitVec.getLsbD k := by
    rw [i_and_bv, BitVec.getLsbD_and, i_shr_bw x k hk, BitVec.getLsbD_sshiftRight]
    have e : (iI 1).toBitVec.getLsbD 0 = true := by decide
    rw [e, Bool.and_true]
    simp
    omega
  rw [← h1]
  unfold i_has
  rcases i_and1 (i_shr x k) with h | h <;> rw [h] <;> decide
theorem i_has_orw {w j k : Int} (hj : 0 ≤ j ∧ j < 32) (hk : 0 ≤ k ∧ k < 32) : i_has (i_or w (i_shl 1 j)) k = (i_has w k || decide (k = j)) := by
  have e1 := i_hasw (i_or w (i_shl 1 j)) k.toNat (by omega)
  have e2 := i_hasw w k.toNat (by omega)
  have e3 := i_shl_bw j.toNat (by omega)
  rw [show ((k.toNat : Nat) : Int) = k by omega] at e1 e2
  rw [show ((j.toNat : Nat) : Int) = j by omega] at e3
  rw [e1, e2, i_or_bv, e3, BitVec.getLsbD_or, BitVec.getLsbD_shiftLeft, BitVec.getLsbD_one]
  congr 1
  by_cases h : k = j
  · subst h; simp; omega
  · simp [h]; omega
theorem i_has_w0 {k : Int} (hk : 0 ≤ k ∧ k < 32) : i_has 0 k = false := by
  have e1 := i_hasw 0 k.toNat (by omega)
  rw [show ((k.toNat : Nat) : Int) = k by omega] at e1
  rw [e1]
  show (0#32).getLsbD _ = false
  simp
/-- sets of five, by trial -/
theorem d_b5 : ∀ a : Nat, a < 32 → ∀ i : Nat, i < 5 → (i_has a i = true → i_or a (i_shl 1 i) = a) ∧ (i_has a i = false → i_or a (i_shl 1 i) = a + 2 ^ i ∧ i_bits (a + 2 ^ i : Nat) = i_bits a + 1) := by decide +kernel
theorem d_b10 : ∀ a : Nat, a < 1024 → ∀ i : Nat, i < 10 → i_has a i = false → i_or a (i_shl 1 i) = a + 2 ^ i := by decide +kernel
theorem d_spl : ∀ f : Nat, f < 6 → ∀ a : Nat, a < 2 ^ f → ∀ b : Nat, b < 32 → ∀ k : Nat, k < 10 → i_has (a + 2 ^ f * b : Nat) k = if k < f then i_has a k else i_has b ((k - f : Nat) : Int) := by decide +kernel
theorem d_top : ∀ c : Nat, c < 5 → ∀ a : Nat, a < 2 ^ c → i_has a c = false ∧ i_has (a + 2 ^ c : Nat) c = true ∧ ∀ k : Nat, k < c → i_has (a + 2 ^ c : Nat) k = i_has a k := by decide +kernel
theorem d_up : ∀ f : Nat, f < 6 → ∀ a : Nat, a < 2 ^ f → ∀ i : Nat, i < f → i_has a i = false → a + 2 ^ i < 2 ^ f := by decide +kernel
theorem d_up10 : ∀ f : Nat, f < 11 → ∀ a : Nat, a < 2 ^ f → ∀ i : Nat, i < f → i_has a i = false → a + 2 ^ i < 2 ^ f := by decide +kernel


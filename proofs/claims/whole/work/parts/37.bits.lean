/-! THE PURE PART, 17: sets as bits -/
theorem i_shr_bv (x : Int) : ∀ k : Nat, k < 18 → (iI (i_shr x k)).toBitVec = (iI x).toBitVec.sshiftRight k
  | 0, _ => by unfold i_shr; rw [iI_toInt]; rfl
  | 1, _ => by unfold i_shr; rw [iI_toInt]; rfl
  | 2, _ => by unfold i_shr; rw [iI_toInt]; rfl
  | 3, _ => by unfold i_shr; rw [iI_toInt]; rfl
  | 4, _ => by unfold i_shr; rw [iI_toInt]; rfl
  | 5, _ => by unfold i_shr; rw [iI_toInt]; rfl
  | 6, _ => by unfold i_shr; rw [iI_toInt]; rfl
  | 7, _ => by unfold i_shr; rw [iI_toInt]; rfl
  | 8, _ => by unfold i_shr; rw [iI_toInt]; rfl
  | 9, _ => by unfold i_shr; rw [iI_toInt]; rfl
  | 10, _ => by unfold i_shr; rw [iI_toInt]; rfl
  | 11, _ => by unfold i_shr; rw [iI_toInt]; rfl
  | 12, _ => by unfold i_shr; rw [iI_toInt]; rfl
  | 13, _ => by unfold i_shr; rw [iI_toInt]; rfl
  | 14, _ => by unfold i_shr; rw [iI_toInt]; rfl
  | 15, _ => by unfold i_shr; rw [iI_toInt]; rfl
  | 16, _ => by unfold i_shr; rw [iI_toInt]; rfl
  | 17, _ => by unfold i_shr; rw [iI_toInt]; rfl
  | k + 18, h => by omega
theorem i_shl_bv : ∀ k : Nat, k < 18 → (iI (i_shl 1 k)).toBitVec = 1#32 <<< k := by decide +kernel
theorem i_or_bv (a b : Int) : (iI (i_or a b)).toBitVec = (iI a).toBitVec ||| (iI b).toBitVec := by unfold i_or; rw [iI_toInt]; rfl
theorem i_and_bv (a b : Int) : (iI (i_and a b)).toBitVec = (iI a).toBitVec &&& (iI b).toBitVec := by unfold i_and; rw [iI_toInt]; rfl
theorem i_xor_bv (a b : Int) : (iI (i_xor a b)).toBitVec = (iI a).toBitVec ^^^ (iI b).toBitVec := by unfold i_xor; rw [iI_toInt]; rfl
theorem i_and_in (a b : Int) : i_in (i_and a b) := i_tin _
theorem i_or_in (a b : Int) : i_in (i_or a b) := i_tin _
theorem i_xor_in (a b : Int) : i_in (i_xor a b) := i_tin _
theorem i_shl_in (a b : Int) : i_in (i_shl a b) := i_tin _
/-- a bit of a set -/
theorem i_hasb (x : Int) (k : Nat) (hk : k < 18) : i_has x k = (iI x).toBitVec.getLsbD k := by
  have h1 : (iI (i_and (i_shr x k) 1)).toBitVec.getLsbD 0 = (iI x).toBitVec.getLsbD k := by
    rw [i_and_bv, BitVec.getLsbD_and, i_shr_bv x k hk, BitVec.getLsbD_sshiftRight]
    have e : (iI 1).toBitVec.getLsbD 0 = true := by decide
    rw [e, Bool.and_true]
    simp
    omega
  rw [← h1]
  unfold i_has
  rcases i_and1 (i_shr x k) with h | h <;> rw [h] <;> decide
theorem i_bit_shl (j k : Nat) (hj : j < 18) : (iI (i_shl 1 j)).toBitVec.getLsbD k = decide (k = j) := by
  rw [i_shl_bv j hj, BitVec.getLsbD_shiftLeft, BitVec.getLsbD_one]
  by_cases h : k = j
  · subst h; simp; omega
  · simp [h]; omega
theorem z_bor_in (P : Int → Bool) : ∀ (n : Nat) (i acc : Int), i_in acc → i_in (z_bor n i P acc)
  | 0, _, _, h => h
  | n + 1, i, acc, h => by
    refine z_bor_in P n (i + 1) _ ?_
    cases P i
    · exact h
    · exact i_or_in _ _
theorem z_bor_bit (P : Int → Bool) : ∀ (n : Nat) (i acc : Int), 0 ≤ i → i + n ≤ 18 → ∀ k : Nat, (iI (z_bor n i P acc)).toBitVec.getLsbD k = ((iI acc).toBitVec.getLsbD k || (decide (i ≤ k ∧ (k : Int) < i + n) && P k))
  | 0, i, acc, h0, h, k => by
    show (iI acc).toBitVec.getLsbD k = _
    rw [decide_eq_false (by omega)]; simp
  | n + 1, i, acc, h0, h, k => by
    show (iI (z_bor n (i + 1) P (cond (P i) (i_or acc (i_shl 1 i)) acc))).toBitVec.getLsbD k = _
    rw [z_bor_bit P n (i + 1) _ (by omega) (by omega) k]
    have hi : ((i.toNat : Nat) : Int) = i := by omega
    have hb : (iI (i_shl 1 i)).toBitVec.getLsbD k = decide (k = i.toNat) := by
      have := i_bit_shl i.toNat k (by omega)
      rw [hi] at this; exact this
    by_cases e : (k : Int) = i
    · have e2 : k = i.toNat := by omega
      rw [decide_eq_false (show ¬ (i + 1 ≤ (k : Int) ∧ (k : Int) < i + 1 + n) by omega), decide_eq_true (show i ≤ (k : Int) ∧ (k : Int) < i + (n + 1 : Nat) by omega), Bool.false_and, Bool.or_false, Bool.true_and]
      cases hp : P i
      · rw [show P (k : Int) = false by rw [e]; exact hp]; simp
      · rw [show P (k : Int) = true by rw [e]; exact hp]
        show (iI (i_or acc (i_shl 1 i))).toBitVec.getLsbD k = _
        rw [i_or_bv, BitVec.getLsbD_or, hb, decide_eq_true e2]
    · have e2 : ¬ (k = i.toNat) := by omega
      have e3 : decide (i + 1 ≤ (k : Int) ∧ (k : Int) < i + 1 + n) = decide (i ≤ (k : Int) ∧ (k : Int) < i + (n + 1 : Nat)) := decide_eq_decide.mpr (by omega)
      rw [e3]
      congr 1
      cases hp : P i
      · rfl
      · show (iI (i_or acc (i_shl 1 i))).toBitVec.getLsbD k = _
        rw [i_or_bv, BitVec.getLsbD_or, hb, decide_eq_false e2, Bool.or_false]
theorem z_bor_has (P : Int → Bool) {n : Nat} {i acc : Int} (h0 : 0 ≤ i) (h : i + n ≤ 18) {k : Int} (hk : 0 ≤ k ∧ k < 18) : i_has (z_bor n i P acc) k = (i_has acc k || (decide (i ≤ k ∧ k < i + n) && P k)) := by
  have e : ((k.toNat : Nat) : Int) = k := by omega
  have a := i_hasb (z_bor n i P acc) k.toNat (by omega)
  have b := i_hasb acc k.toNat (by omega)
  have c := z_bor_bit P n i acc h0 h k.toNat
  rw [e] at a b c
  rw [a, b, c]
theorem i_has_0 {k : Int} (hk : 0 ≤ k ∧ k < 18) : i_has 0 k = false := by
  have h : ∀ k : Nat, k < 18 → i_has 0 k = false := by decide +kernel
  have := h k.toNat (by omega)
  rw [show ((k.toNat : Nat) : Int) = k by omega] at this
  exact this
theorem i_v_toNat {x : Int} (h : i_in x) (h2 : (iI x).toBitVec.toNat < 2147483648) : x = (iI x).toBitVec.toNat := by
  have e : (iI x).toInt = (iI x).toBitVec.toNat := by
    show (iI x).toBitVec.toInt = _
    exact BitVec.toInt_eq_toNat_of_lt (by omega)
  rw [iI_in h] at e
  exact e
/-- a set is as large as its bits -/
theorem z_bor_lt (P : Int → Bool) {n : Nat} (h : n ≤ 17) : 0 ≤ z_bor n 0 P 0 ∧ z_bor n 0 P 0 < 2 ^ n := by
  have h1 : (iI (z_bor n 0 P 0)).toBitVec.toNat < 2 ^ n := by
    apply Nat.lt_pow_two_of_testBit
    intro k hk
    rw [BitVec.testBit_toNat, z_bor_bit P n 0 0 (by omega) (by omega) k, decide_eq_false (by omega)]
    show ((0#32).getLsbD k || _) = false
    simp
  have h2 : 2 ^ n ≤ 2 ^ 17 := Nat.pow_le_pow_right (by omega) h
  have h3 := i_v_toNat (z_bor_in P n 0 0 ⟨by omega, by omega⟩) (by omega)
  have h4 : ((2 ^ n : Nat) : Int) = 2 ^ n := by simp
  constructor
  · omega
  · rw [← h4]; omega
/-- a set is told by its bits -/
theorem i_bits_eq {x y : Int} {n : Nat} (hn : n ≤ 17) (hx : 0 ≤ x ∧ x < 2 ^ n) (hy : 0 ≤ y ∧ y < 2 ^ n) (h : ∀ k : Int, 0 ≤ k → k < n → i_has x k = i_has y k) : x = y := by
  have h2 : 2 ^ n ≤ 2 ^ 17 := Nat.pow_le_pow_right (by omega) hn
  have h4 : ((2 ^ n : Nat) : Int) = 2 ^ n := by simp
  have xi : i_in x := ⟨by omega, by omega⟩
  have yi : i_in y := ⟨by omega, by omega⟩
  refine iI_inj xi yi (Int32.toBitVec.inj (BitVec.eq_of_getLsbD_eq (fun k hk => ?_)))
  by_cases c : k < n
  · rw [← i_hasb x k (by omega), ← i_hasb y k (by omega)]
    exact h k (by omega) (by omega)
  · rw [← BitVec.testBit_toNat, ← BitVec.testBit_toNat, i_toNat ⟨by omega, by omega⟩, i_toNat ⟨by omega, by omega⟩]
    have p : 2 ^ n ≤ 2 ^ k := Nat.pow_le_pow_right (by omega) (by omega)
    rw [Nat.testBit_lt_two_pow (by omega), Nat.testBit_lt_two_pow (by omega)]
theorem z_bor_iff (P : Int → Bool) {n : Nat} {x : Int} (hn : n ≤ 17) (hx : 0 ≤ x ∧ x < 2 ^ n) : z_bor n 0 P 0 = x ↔ ∀ k : Int, 0 ≤ k → k < n → P k = i_has x k := by
  have b := fun (k : Int) (a : 0 ≤ k) (c : k < n) => z_bor_has P (n := n) (i := 0) (acc := 0) (by omega) (by omega) (k := k) ⟨a, by omega⟩
  constructor
  · intro e k a c
    have := b k a c
    rw [e, i_has_0 ⟨a, by omega⟩, decide_eq_true (by omega)] at this
    rw [this]; simp
  · intro h
    refine i_bits_eq hn (z_bor_lt P hn) hx (fun k a c => ?_)
    rw [b k a c, i_has_0 ⟨a, by omega⟩, decide_eq_true (by omega), ← h k a c]; simp
theorem i_shl_pow {n : Int} (h : 0 ≤ n ∧ n ≤ 12) : i_shl 1 n = 2 ^ n.toNat := by
  have e := i_shl1 n.toNat (by omega)
  rw [show ((n.toNat : Nat) : Int) = n by omega] at e
  exact e

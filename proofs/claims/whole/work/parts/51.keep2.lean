/-! THE PURE PART, 31: the kept steps stand beside one another -/
theorem st_tr {Bc W A A2 : Int → Int} {x x' y : Int} (h : c_st Bc A x y) (hW : ∀ k, 0 ≤ k → k < 24 → W (y + k) = Bc (y + k)) (hA : ∀ k, 0 ≤ k → k < 65 → A2 (x' + k) = A (x + k)) (h0 : A 0 ≤ A2 0) (h1 : A 1 ≤ A2 1) (h11 : A 11 ≤ A2 11) (h1b : A 1 ≤ 10) (h11b : A 11 ≤ 20) (hp : ∀ k, 0 ≤ k → k < 2 * A 11 → A2 (106 + k) = A (106 + k)) : c_st W A2 x' y := by
  obtain ⟨s1, s2, s3, s4, s5, s6, s7, s8, s9⟩ := h
  have a0 : A2 x' = A x := by have := hA 0 (by omega) (by omega); rw [Int.add_zero, Int.add_zero] at this; exact this
  have a5 : ∀ p, 0 ≤ p → p < 10 → A2 (x' + 5 + 2 * p) = A (x + 5 + 2 * p) := fun p a b => by have := hA (5 + 2 * p) (by omega) (by omega); rw [← Int.add_assoc, ← Int.add_assoc] at this; exact this
  have a6 : ∀ p, 0 ≤ p → p < 10 → A2 (x' + 6 + 2 * p) = A (x + 6 + 2 * p) := fun p a b => by have := hA (6 + 2 * p) (by omega) (by omega); rw [← Int.add_assoc, ← Int.add_assoc] at this; exact this
  have w0 : ∀ p, 0 ≤ p → p < 10 → W (y + p) = Bc (y + p) := fun p a b => hW p a (by omega)
  have w1 : ∀ p, 0 ≤ p → p < 10 → W (y + 10 + p) = Bc (y + 10 + p) := fun p a b => by have := hW (10 + p) (by omega) (by omega); rw [← Int.add_assoc] at this; exact this
  unfold c_st
  rw [a0, hA 1 (by omega) (by omega), hA 2 (by omega) (by omega), hA 3 (by omega) (by omega), hA 4 (by omega) (by omega), hW 20 (by omega) (by omega), hW 21 (by omega) (by omega), hW 22 (by omega) (by omega), hW 23 (by omega) (by omega)]
  refine ⟨by omega, fun p a b => ?_, fun p a b => ?_, fun p q a b c e f => ?_, s5, s6, s7, ⟨s8.1, s8.2.1, by omega⟩, fun k a b => ?_⟩
  · have := s2 p a b
    rw [w0 p a (by omega), w1 p a (by omega), a5 p a (by omega), a6 p a (by omega)]
    exact ⟨this.1, by omega, this.2.2⟩
  · rw [w0 p (by omega) b, w1 p (by omega) b]; exact s3 p a b
  · rw [a5 p a (by omega), a5 q c (by omega)] at f
    rw [a5 p a (by omega)]
    exact s4 p q a b c e f
  · have := hA (25 + k) (by omega) (by omega)
    rw [← Int.add_assoc, ← Int.add_assoc] at this
    rw [this, hp k a (by omega)]; exact s9 k a b
/-- the step that was kept last -/
theorem st_new {A A2 : Int → Int} {G : ZG} {W R : Int → Int} {x y : Int} (hC : c_nw A G) (hW : k_cl G W y) (hR : R x = A 1 ∧ R (x + 1) = A 8 ∧ R (x + 2) = A 3 ∧ R (x + 3) = A 4 ∧ R (x + 4) = A 11 ∧ (∀ p, 0 ≤ p → p < 10 → R (x + 5 + 2 * p) = A (32 + 5 * p + 3) ∧ R (x + 6 + 2 * p) = A (32 + 5 * p + 4)) ∧ ∀ k, 0 ≤ k → k < 40 → R (x + 25 + k) = A (106 + k)) (hA : ∀ k, 0 ≤ k → k < 65 → A2 (x + k) = R (x + k)) (h0 : A 0 ≤ A2 0) (h1 : A 1 ≤ A2 1) (h11 : A 11 ≤ A2 11) (hp : ∀ k, 0 ≤ k → k < 2 * A 11 → A2 (106 + k) = A (106 + k)) : c_st W A2 x y := by
  obtain ⟨hM, hI, -⟩ := id hC
  obtain ⟨m0, m1, m2, m3, m4, m5, m6, m7, m8, m9, m10, m11, ms, mp, mn, mc, mb, me⟩ := hM
  obtain ⟨w1, w2, w3, w4, w5, w6⟩ := hW
  obtain ⟨r0, r1, r2, r3, r4, r5, r6⟩ := hR
  have a0 : A2 x = A 1 := by have := hA 0 (by omega) (by omega); rw [Int.add_zero] at this; rw [this, r0]
  have a5 : ∀ p, 0 ≤ p → p < 10 → A2 (x + 5 + 2 * p) = A (32 + 5 * p + 3) := fun p a b => by have := hA (5 + 2 * p) (by omega) (by omega); rw [← Int.add_assoc] at this; rw [this]; exact (r5 p a b).1
  have a6 : ∀ p, 0 ≤ p → p < 10 → A2 (x + 6 + 2 * p) = A (32 + 5 * p + 4) := fun p a b => by have := hA (6 + 2 * p) (by omega) (by omega); rw [← Int.add_assoc] at this; rw [this]; exact (r5 p a b).2
  have o := dw_o hC
  have u := dw_u hC
  have mm := dw_m hC
  unfold c_st
  rw [a0, hA 1 (by omega) (by omega), hA 2 (by omega) (by omega), hA 3 (by omega) (by omega), hA 4 (by omega) (by omega), r1, r2, r3, r4, w3, w4, w5, w6, mm.1, mm.2.1, mm.2.2.1, mm.2.2.2]
  refine ⟨by omega, fun p a b => ?_, fun p a b => ?_, fun p q a b c e f => ?_, ⟨rfl, m8⟩, ⟨rfl, m3⟩, ⟨rfl, m4⟩, ⟨rfl, by omega, h11⟩, fun k a b => ?_⟩
  · have h := mp p a b
    rw [(w2 p a (by omega)).1, (w2 p a (by omega)).2, a5 p a (by omega), a6 p a (by omega)]
    exact ⟨o p a b, by omega, h.2.2.2.2⟩
  · rw [(w2 p (by omega) b).1, (w2 p (by omega) b).2]; exact u p a b
  · rw [a5 p a (by omega), a5 q c (by omega)] at f
    rw [a5 p a (by omega)]
    exact hI p q a b c e f
  · have := hA (25 + k) (by omega) (by omega)
    rw [← Int.add_assoc] at this
    rw [this, r6 k a (by omega), hp k a b]
/-- after a keep and a deed on the moment, the steps stand beside one another -/
theorem sp_keep {A A2 B R : Int → Int} {G : ZG} {h2 : ZG} {W : Int → Int} (hC : c_nw A G) (hW : k_cl G W (24 * G 25 1)) (hk : k_md B R (186 + 65 * B 7)) (hB : (B = A ∧ A 7 < 30) ∨ (k_sh A B ∧ A 7 = 30)) (e14 : h2 14 1 = (G 25 1 + 1) % 30 ∧ h2 14 2 = if G 25 2 < 30 then G 25 2 + 1 else G 25 2) (e15 : h2 15 = W) (hA7 : A2 7 = B 7 + 1) (hA : ∀ k, 186 ≤ k → A2 k = R k) (h0 : A 0 ≤ A2 0) (h1 : A 1 ≤ A2 1) (h11 : A 11 ≤ A2 11) (hp : ∀ k, 0 ≤ k → k < 2 * A 11 → A2 (106 + k) = A (106 + k)) : c_sp h2 A2 := by
  obtain ⟨hM, hI, hH, hO, hT, s1, s2, s3, s4⟩ := id hC
  obtain ⟨m0, m1, m2, m3, m4, m5, m6, m7, m8, m9, m10, m11, ms, mp, mn, mc, mb, me⟩ := hM
  have s1' : G 25 2 = A 7 := s1
  have s2' : 0 ≤ G 25 1 ∧ G 25 1 < 30 := s2
  have s3' : ∀ j, 0 ≤ j → j < A 7 → c_st (G 26) A (186 + 65 * j) (24 * ((G 25 1 - A 7 + j) % 30)) := s3
  have b7 : (A 7 < 30 ∧ B 7 = A 7) ∨ (A 7 = 30 ∧ B 7 = 29) := by
    rcases hB with ⟨e, f⟩ | ⟨e, f⟩
    · left; rw [e]; exact ⟨f, rfl⟩
    · right; exact ⟨f, e.2.1⟩
  have small : ∀ k, k < 186 → k ≠ 7 → B k = A k := by
    rcases hB with ⟨e, f⟩ | ⟨e, f⟩
    · intro k _ _; rw [e]
    · exact e.1
  -- where an old step stands now
  have old : ∀ j, 0 ≤ j → j < B 7 → ∃ i, 0 ≤ i ∧ i < A 7 ∧ ((G 25 1 + 1) % 30 - (B 7 + 1) + j) % 30 = (G 25 1 - A 7 + i) % 30 ∧ (G 25 1 - A 7 + i) % 30 ≠ G 25 1 ∧ (∀ k, 0 ≤ k → k < 65 → A2 (186 + 65 * j + k) = A (186 + 65 * i + k)) ∧ i = j + (A 7 - B 7) := by
    intro j a b
    rcases hB with ⟨e, f⟩ | ⟨e, f⟩
    · refine ⟨j, a, by rw [← e]; exact b, ?_, ?_, fun k c g => ?_, by rw [e]; omega⟩
      · rw [e]; omega
      · rw [e] at b; omega
      · rw [hA _ (by omega), hk.1 _ (by left; omega), e]
    · have e7 := e.2.1
      refine ⟨j + 1, by omega, by omega, ?_, ?_, fun k c g => ?_, by omega⟩
      · omega
      · omega
      · rw [hA _ (by omega), hk.1 _ (by left; omega)]
        have := e.2.2 (65 * j + k) (by omega) (by omega)
        rw [show 186 + (65 * j + k) = 186 + 65 * j + k by omega, show 251 + (65 * j + k) = 186 + 65 * (j + 1) + k by omega] at this
        exact this
  have hx4 : A2 (186 + 65 * B 7 + 4) = A 11 := by rw [hA _ (by omega), hk.2.2.2.2.2.1, small 11 (by omega) (by omega)]
  have old4 : ∀ j, 0 ≤ j → j < B 7 → A2 (186 + 65 * j + 4) ≤ A 11 := by
    intro j a b
    obtain ⟨i, i1, i2, -, -, i5, -⟩ := old j a b
    rw [i5 4 (by omega) (by omega)]
    exact (s3' i i1 i2).2.2.2.2.2.2.2.1.2.2
  refine ⟨?_, ?_, fun j a b => ?_, fun i j a b c => ?_⟩
  · rw [e14.2, hA7, s1']
    split <;> omega
  · rw [e14.1]; omega
  · rw [e14.1, e15, hA7]
    rw [hA7] at b
    by_cases c : j = B 7
    · have y : ((G 25 1 + 1) % 30 - (B 7 + 1) + j) % 30 = G 25 1 := by rw [c]; omega
      rw [y, c]
      refine st_new hC hW ⟨?_, ?_, ?_, ?_, ?_, fun p p1 p2 => ?_, fun k k1 k2 => ?_⟩ (fun k k1 k2 => hA _ (by omega)) h0 h1 h11 hp
      · rw [hk.2.1, small 1 (by omega) (by omega)]
      · rw [hk.2.2.1, small 8 (by omega) (by omega)]
      · rw [hk.2.2.2.1, small 3 (by omega) (by omega)]
      · rw [hk.2.2.2.2.1, small 4 (by omega) (by omega)]
      · rw [hk.2.2.2.2.2.1, small 11 (by omega) (by omega)]
      · have := hk.2.2.2.2.2.2.1 p p1 p2
        rw [this.1, this.2, small _ (by omega) (by omega), small _ (by omega) (by omega)]; exact ⟨rfl, rfl⟩
      · rw [hk.2.2.2.2.2.2.2 k k1 k2, small _ (by omega) (by omega)]
    · obtain ⟨i, i1, i2, i3, i4, i5, -⟩ := old j a (by omega)
      rw [i3]
      refine st_tr (s3' i i1 i2) (fun k k1 k2 => hW.1 _ ?_) i5 h0 h1 h11 (by omega) (by omega) hp
      generalize (G 25 1 - A 7 + i) % 30 = z at *
      omega
  · rw [hA7] at c
    by_cases c1 : j = B 7
    · rw [c1, hx4]
      by_cases c2 : i = B 7
      · rw [c2, hx4]; exact Int.le_refl _
      · exact old4 i a (by omega)
    · obtain ⟨i', i1, i2, -, -, i5, i6⟩ := old i a (by omega)
      obtain ⟨j', j1, j2, -, -, j5, j6⟩ := old j (by omega) (by omega)
      rw [i5 4 (by omega) (by omega), j5 4 (by omega) (by omega)]
      exact s4 i' j' i1 (by omega) j2

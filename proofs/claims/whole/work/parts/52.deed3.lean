/-! THE PURE PART, 32: what a keep and a single change of the moment leave -/
theorem K_keep {A B R : Int → Int} {G : ZG} {W : Int → Int} (hC : c_nw A G) (hW : k_cl G W (24 * G 25 1)) (hk : k_md B R (186 + 65 * B 7)) (hB : (B = A ∧ A 7 < 30) ∨ (k_sh A B ∧ A 7 = 30)) : c_nw (z_ro R 7 (B 7 + 1)) (z_up (z_up G 25 (z_ro (z_ro (G 25) 1 ((G 25 1 + 1) % 30)) 2 (if G 25 2 < 30 then G 25 2 + 1 else G 25 2))) 26 W) := by
  have hS := sp_keep (A2 := z_ro R 7 (B 7 + 1)) (h2 := fun r => z_up (z_up G 25 (z_ro (z_ro (G 25) 1 ((G 25 1 + 1) % 30)) 2 (if G 25 2 < 30 then G 25 2 + 1 else G 25 2))) 26 W (11 + r)) hC hW hk hB
  obtain ⟨hM, hI, ⟨h1, h2, h3, h4, h5, h6, h7, h8⟩, ⟨o1, o2, o3, o4⟩, ⟨t1, t2, t3, t4⟩, -⟩ := id hC
  obtain ⟨m0, m1, m2, m3, m4, m5, m6, m7, m8, m9, m10, m11, ms, mp, mn, mc, mb, me⟩ := hM
  have b7 : (A 7 < 30 ∧ B 7 = A 7) ∨ (A 7 = 30 ∧ B 7 = 29) := by
    rcases hB with ⟨e, f⟩ | ⟨e, f⟩
    · left; rw [e]; exact ⟨f, rfl⟩
    · right; exact ⟨f, e.2.1⟩
  have e : ∀ k, k < 186 → k ≠ 7 → z_ro R 7 (B 7 + 1) k = A k := by
    intro k a b
    rw [z_ro_ne _ _ b, hk.1 k (by left; omega)]
    rcases hB with ⟨e, f⟩ | ⟨e, f⟩
    · rw [e]
    · exact e.1 k a b
  have e7 : z_ro R 7 (B 7 + 1) 7 = B 7 + 1 := z_ro_eq _ _ _
  have big : ∀ k, 186 ≤ k → z_ro R 7 (B 7 + 1) k = R k := fun k a => z_ro_ne _ _ (by omega)
  generalize z_ro R 7 (B 7 + 1) = A' at *
  refine ⟨?_, ?_, ?_, ?_, ?_, ?_⟩
  · unfold m_ok
    rw [e 0 (by omega) (by omega), e 1 (by omega) (by omega), e 2 (by omega) (by omega), e 3 (by omega) (by omega), e 4 (by omega) (by omega), e 5 (by omega) (by omega), e 6 (by omega) (by omega), e7, e 8 (by omega) (by omega), e 9 (by omega) (by omega), e 10 (by omega) (by omega), e 11 (by omega) (by omega)]
    refine ⟨m0, m1, m2, m3, m4, m5, m6, by omega, m8, m9, m10, m11, fun k a f => ?_, fun p a f => ?_, fun k a f => ?_, fun k a f => ?_, fun k a f => ?_, fun k a f => ?_⟩
    · rw [e _ (by omega) (by omega), e _ (by omega) (by omega)]; exact ms k a f
    · rw [e _ (by omega) (by omega), e _ (by omega) (by omega), e _ (by omega) (by omega), e _ (by omega) (by omega), e _ (by omega) (by omega)]; exact mp p a f
    · rw [e _ (by omega) (by omega), e _ (by omega) (by omega)]; exact mn k a f
    · rw [e _ (by omega) (by omega), e _ (by omega) (by omega)]; exact mc k a f
    · rw [e _ (by omega) (by omega), e _ (by omega) (by omega)]; exact mb k a f
    · rw [e _ (by omega) (by omega), e _ (by omega) (by omega), e _ (by omega) (by omega)]; exact me k a f
  · intro p p' a b a' b' f
    rw [e 1 (by omega) (by omega)] at b b'
    rw [e _ (by omega) (by omega), e _ (by omega) (by omega)] at f
    rw [e _ (by omega) (by omega)]
    exact hI p p' a b a' b' f
  · unfold c_hs
    dsimp only
    simp only [Nat.reduceAdd, z_up_app, Nat.reduceEqDiff, ↓reduceIte]
    rw [e 0 (by omega) (by omega), e 1 (by omega) (by omega), e 2 (by omega) (by omega), e 5 (by omega) (by omega), e 6 (by omega) (by omega)]
    refine ⟨h1, h2, h3, h4, h5, fun k a f => ?_, fun k a f => ?_, fun k a f => ?_⟩
    · rw [e _ (by omega) (by omega), e _ (by omega) (by omega)]; exact h6 k a f
    · rw [e _ (by omega) (by omega), e _ (by omega) (by omega), e _ (by omega) (by omega)]; exact h7 k a f
    · rw [e _ (by omega) (by omega), e _ (by omega) (by omega)]; exact h8 k a f
  · unfold c_mo
    dsimp only
    simp only [Nat.reduceAdd, z_up_app, Nat.reduceEqDiff, ↓reduceIte]
    rw [e 8 (by omega) (by omega), e 3 (by omega) (by omega), e 4 (by omega) (by omega), e 11 (by omega) (by omega), e 1 (by omega) (by omega)]
    refine ⟨o1, fun k a f => ?_, o3, fun k a f => ?_⟩
    · rw [e _ (by omega) (by omega), e _ (by omega) (by omega)]; exact o2 k a f
    · rw [e _ (by omega) (by omega), e _ (by omega) (by omega)]; exact o4 k a f
  · unfold c_to
    dsimp only
    simp only [Nat.reduceAdd, z_up_app, Nat.reduceEqDiff, ↓reduceIte]
    rw [e 9 (by omega) (by omega), e 10 (by omega) (by omega)]
    refine ⟨t1, fun k a f => ?_, t3, fun k a f => ?_⟩
    · rw [e _ (by omega) (by omega), e _ (by omega) (by omega)]; exact t2 k a f
    · rw [e _ (by omega) (by omega), e _ (by omega) (by omega), e _ (by omega) (by omega)]; exact t4 k a f
  · refine hS ⟨?_, ?_⟩ ?_ e7 big (by rw [e 0 (by omega) (by omega)]; omega) (by rw [e 1 (by omega) (by omega)]; omega) (by rw [e 11 (by omega) (by omega)]; omega) (fun k a b => e _ (by omega) (by omega))
    · show z_up _ 26 W 25 1 = _
      rw [z_up_ne _ _ (by omega), z_up_eq, z_ro_ne _ _ (by omega), z_ro_eq]
    · show z_up _ 26 W 25 2 = _
      rw [z_up_ne _ _ (by omega), z_up_eq, z_ro_eq]
    · exact z_up_eq _ _ _
/-- a change of how one is, where it sits: rows that agree but there -/
theorem D_mo {A A' : Int → Int} {G G' : ZG} (hC : c_nw A G) (hg : ∀ r, r ≠ 20 → r ≠ 21 → r ≠ 22 → G' r = G r) (hag : m_ag A A') (h3 : ∀ k, k ≠ 3 → k ≠ 8 → (k < 32 ∨ 82 ≤ k) → A' k = A k) (hM : m_ok A') (hI : m_inj A') (hp2 : ∀ p, 0 ≤ p → p < A 1 → A' (32 + 5 * p + 2) = A (32 + 5 * p + 2)) (ho : G' 20 2 = A' 8 ∧ G' 20 3 = A' 3 ∧ G' 20 4 = A 4 ∧ G' 20 5 = A 11) (hq : ∀ p, 0 ≤ p → p < A 1 → G' 21 p = A' (32 + 5 * p + 3) ∧ G' 22 p = A' (32 + 5 * p + 4)) (hu : ∀ p, A 1 ≤ p → p < 10 → G' 21 p = -1 ∧ G' 22 p = 0) : c_nw A' G' := by
  obtain ⟨hM0, -, ⟨h1, h2, h3', h4, h5, h6, h7, h8⟩, ⟨o1, o2, o3, o4⟩, ⟨t1, t2, t3, t4⟩, hS⟩ := hC
  have m0 := hM0.1
  have m1 := hM0.2.1
  have m11 := hM0.2.2.2.2.2.2.2.2.2.2.2.1
  have m2 := hM0.2.2.1
  refine ⟨hM, hI, ?_, ?_, ?_, ?_⟩
  · unfold c_hs
    dsimp only
    rw [hg (11 + 0) (by omega) (by omega) (by omega), hg (11 + 1) (by omega) (by omega) (by omega), hg (11 + 2) (by omega) (by omega) (by omega), hg (11 + 3) (by omega) (by omega) (by omega), hg (11 + 4) (by omega) (by omega) (by omega), hg (11 + 5) (by omega) (by omega) (by omega), hg (11 + 6) (by omega) (by omega) (by omega), hg (11 + 7) (by omega) (by omega) (by omega)]
    rw [h3 0 (by omega) (by omega) (by omega), h3 1 (by omega) (by omega) (by omega), h3 2 (by omega) (by omega) (by omega), h3 5 (by omega) (by omega) (by omega), h3 6 (by omega) (by omega) (by omega)]
    refine ⟨h1, h2, h3', h4, h5, fun k a f => ?_, fun k a f => ?_, fun k a f => ?_⟩
    · rw [h3 _ (by omega) (by omega) (by omega), h3 _ (by omega) (by omega) (by omega)]; exact h6 k a f
    · rw [(hag.2 k a (by omega)).1, (hag.2 k a (by omega)).2, hp2 k a f]; exact h7 k a f
    · rw [h3 _ (by omega) (by omega) (by omega), h3 _ (by omega) (by omega) (by omega)]; exact h8 k a f
  · unfold c_mo
    dsimp only
    rw [hg (11 + 12) (by omega) (by omega) (by omega), hg (11 + 13) (by omega) (by omega) (by omega), h3 1 (by omega) (by omega) (by omega), h3 11 (by omega) (by omega) (by omega), h3 4 (by omega) (by omega) (by omega)]
    refine ⟨ho, hq, hu, fun k a f => ?_⟩
    rw [h3 _ (by omega) (by omega) (by omega), h3 _ (by omega) (by omega) (by omega)]; exact o4 k a f
  · unfold c_to
    dsimp only
    rw [hg (11 + 16) (by omega) (by omega) (by omega), hg (11 + 17) (by omega) (by omega) (by omega), hg (11 + 18) (by omega) (by omega) (by omega), hg (11 + 19) (by omega) (by omega) (by omega), hg (11 + 20) (by omega) (by omega) (by omega), hg (11 + 21) (by omega) (by omega) (by omega), h3 9 (by omega) (by omega) (by omega), h3 10 (by omega) (by omega) (by omega)]
    have m9 := hM0.2.2.2.2.2.2.2.2.2.1
    refine ⟨t1, fun k a f => ?_, t3, fun k a f => ?_⟩
    · rw [h3 _ (by omega) (by omega) (by omega), h3 _ (by omega) (by omega) (by omega)]; exact t2 k a f
    · rw [h3 _ (by omega) (by omega) (by omega), h3 _ (by omega) (by omega) (by omega), h3 _ (by omega) (by omega) (by omega)]; exact t4 k a f
  · exact sp_mono hS (hg (11 + 14) (by omega) (by omega) (by omega)) (hg (11 + 15) (by omega) (by omega) (by omega)) (h3 7 (by omega) (by omega) (by omega)) (fun k a => h3 k (by omega) (by omega) (by omega)) (h3 11 (by omega) (by omega) (by omega)) (by rw [h3 0 (by omega) (by omega) (by omega)]; omega) (by rw [h3 1 (by omega) (by omega) (by omega)]; omega)

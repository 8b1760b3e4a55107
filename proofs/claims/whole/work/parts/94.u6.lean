/-! THE PURE PART, 83: a whole law -/
section
variable {K V : Nat → Int} {nm : Int → Bool}
theorem j_ask_pg {N : Nat} (hN : N ≤ 300) (hK : ∀ j, N ≤ j → K j = 0) : ∀ r, j_pg N (j_ask K V nm r) := by
  have hj : ∀ i, K i ≠ 0 → i + 1 ≤ N := fun i q => by
    by_cases z : i < N
    · omega
    · exact absurd (hK i (by omega)) q
  have plain : ∀ (r j : Nat), K j ≠ 43 → (j_ask K V nm r j).1 = 0 → j < (j_ask K V nm r j).2.1 ∧ (j_ask K V nm r j).2.1 ≤ N ∧ (j_ask K V nm r j).2.2.length + j ≤ (j_ask K V nm r j).2.1 := by
    intro r j h h0
    have pg := (j_sm_pg hN hK (j_one_pg (K := K) (V := V) (nm := nm) hN hK r)).1
    rw [j_ask_eq r j h] at h0 ⊢
    obtain ⟨q1, q2⟩ := j_bd_0 h0
    have p1 := pg j q1
    rw [q2] at h0 ⊢
    generalize j_sm K (j_one K V nm r) j = x1 at *
    by_cases z : 0 ≤ j_cp (K x1.2.1)
    · rw [if_pos z] at h0 ⊢
      obtain ⟨q3, q4⟩ := j_bd_0 h0
      have p2 := pg _ q3
      rw [q4]
      generalize j_sm K (j_one K V nm r) (x1.2.1 + 1) = x2 at *
      refine ⟨by show j < x2.2.1; omega, p2.2.1, ?_⟩
      show (x1.2.2 ++ x2.2.2 ++ [(j_cp (K x1.2.1), (0 : Int))]).length + j ≤ x2.2.1
      rw [List.length_append, List.length_append, List.length_singleton]
      omega
    · rw [if_neg z] at h0; cases h0
  intro r
  induction r with
  | zero =>
    intro j h0
    by_cases h : K j = 43
    · have e1 : j_ask K V nm 0 j = (3, j, []) := if_pos h
      rw [e1] at h0; cases h0
    · exact plain 0 j h h0
  | succ r ih =>
    intro j h0
    by_cases h : K j = 43
    · have e1 : j_ask K V nm (r + 1) j = j_bd (j_ask K V nm r (j + 1)) (fun j' D => (0, j', D ++ [(20, 0)])) := if_pos h
      rw [e1] at h0 ⊢
      obtain ⟨q1, q2⟩ := j_bd_0 h0
      have p := ih _ q1
      rw [q2]
      refine ⟨by show j < (j_ask K V nm r (j + 1)).2.1; omega, p.2.1, ?_⟩
      show ((j_ask K V nm r (j + 1)).2.2 ++ [((20 : Int), (0 : Int))]).length + j ≤ (j_ask K V nm r (j + 1)).2.1
      rw [List.length_append, List.length_singleton]; omega
    · exact plain (r + 1) j h h0
theorem j_base_sp (ei bo : Bool) : j_cn (j_base ei bo) = 0 ∧ j_ah true (j_base ei bo) = true := by
  cases ei <;> cases bo <;> decide
theorem j_base_3 (ei bo : Bool) (X : List (Int × Int)) : j_set 3 (j_base ei bo) X = (j_base ei bo, X) := by
  cases ei <;> cases bo <;> rfl
theorem j_base_2 (ei bo : Bool) (X : List (Int × Int)) : j_set 2 (j_base ei bo) X = (cond ei [22] [], j_w bo X) := by
  cases ei <;> cases bo <;> rfl
theorem j_base_1 (ei bo : Bool) (X : List (Int × Int)) : j_set 1 (j_base ei bo) X = ([], j_v ei (j_w bo X)) := by
  cases ei <;> cases bo <;> rfl
theorem j_ei_no {N : Nat} (hN : N ≤ 300) (hK : ∀ j, N ≤ j → K j = 0) : ∀ (m j : Nat) (ei bo : Bool) (C : List (Int × Int)), j ≤ N → 301 ≤ m + j → j_no true K V nm (j_base ei bo, false, j, C) (j_ei K V nm m j ei bo C)
  | 0, j, _, _, _, h1, h2 => by omega
  | m + 1, j, ei, bo, C, h1, h2 => by
    have hj : ∀ i, K i ≠ 0 → i + 1 ≤ N := fun i q => by
      by_cases z : i < N
      · omega
      · exact absurd (hK i (by omega)) q
    have sp := j_base_sp ei bo
    have q := j_ask_si (K := K) (V := V) (nm := nm) hN hK 8 j (j_base ei bo) C (by rw [sp.1]) sp.2
    have pg := j_ask_pg (K := K) (V := V) (nm := nm) hN hK 8 j
    unfold j_ei
    generalize j_ask K V nm 8 j = x at *
    by_cases z : x.1 = 0
    · obtain ⟨⟨Ps, wh, js, Cs⟩, s1, ⟨s2, s3, s4, s5, s6⟩, s7⟩ := q.1 z
      have s2' : wh = true := s2
      have s3' : js = x.2.1 := s3
      have s4' : j_set 3 Ps Cs = j_set 3 (j_base ei bo) (C ++ x.2.2) := s4
      have s5' : j_cm Ps = true := s5
      have s6' : j_op Ps = -1 := s6
      subst s2' s3'
      have p := pg z
      have eb : ∀ f, j_bd x f = f x.2.1 x.2.2 := fun f => if_pos z
      rw [eb]
      try dsimp only
      rw [j_base_3] at s4'
      have set2 : j_set 2 Ps Cs = (cond ei [22] [], j_w bo (C ++ x.2.2)) := by rw [j_set_set (show (2 : Int) ≤ 3 by omega) Ps Cs, s4', j_base_2]
      have set1 : j_set 1 Ps Cs = ([], j_v ei (j_w bo (C ++ x.2.2))) := by rw [j_set_set (show (1 : Int) ≤ 3 by omega) Ps Cs, s4', j_base_1]
      have bt : j_bt true (K x.2.1) Ps = if K x.2.1 = 42 then 21 else if K x.2.1 = 41 then 22 else -1 := by
        unfold j_bt
        rw [if_neg (by omega), if_neg (by omega), if_neg (by omega), if_neg (by omega), if_neg (by omega), if_pos ⟨rfl, s6'⟩, if_pos s5']
      by_cases c1 : K x.2.1 = 42
      · rw [if_pos c1]
        rw [if_pos c1] at bt
        have t2 : j_to true K V nm (Ps, true, x.2.1, Cs) (j_base ei true, false, x.2.1 + 1, j_w bo (C ++ x.2.2)) := by
          apply j_to_st
          show j_be true K Ps x.2.1 Cs = _
          unfold j_be
          rw [bt, if_pos (by omega), show j_rk 21 = 2 from rfl, set2]
          rfl
        have p1 := hj x.2.1 (by omega)
        exact j_to_no s1 (j_to_no t2 (j_ei_no hN hK m (x.2.1 + 1) ei true _ p1 (by omega)))
      · rw [if_neg c1]
        rw [if_neg c1] at bt
        by_cases c2 : K x.2.1 = 41
        · rw [if_pos c2]
          rw [if_pos c2] at bt
          have t2 : j_to true K V nm (Ps, true, x.2.1, Cs) (j_base true false, false, x.2.1 + 1, j_v ei (j_w bo (C ++ x.2.2))) := by
            apply j_to_st
            show j_be true K Ps x.2.1 Cs = _
            unfold j_be
            rw [bt, if_pos (by omega), show j_rk 22 = 1 from rfl, set1]
            rfl
          have p1 := hj x.2.1 (by omega)
          exact j_to_no s1 (j_to_no t2 (j_ei_no hN hK m (x.2.1 + 1) true false _ p1 (by omega)))
        · rw [if_neg c2]
          rw [if_neg c2] at bt
          refine j_to_no s1 (j_no_st ?_)
          show j_be true K Ps x.2.1 Cs = _
          unfold j_be
          rw [bt, if_neg (by omega), s6', if_neg (by omega), if_neg (by omega), s5', if_neg (by
            intro w
            rcases w with w | w
            · omega
            · exact absurd w.2 (by decide)), set1]
    · have eb : ∀ f, j_bd x f = x := fun f => if_neg z
      rw [eb]
      exact q.2 z
theorem j_sm_no {N : Nat} (hN : N ≤ 300) (hK : ∀ j, N ≤ j → K j = 0) (j : Nat) : j_no false K V nm ([], false, j, []) (j_sm K (j_one K V nm 8) j) := by
  have os := j_one_si (e := false) (K := K) (V := V) (nm := nm) hN hK 8
  have pg := j_sm_pg hN hK (j_one_pg (K := K) (V := V) (nm := nm) hN hK 8)
  have s := j_sm_si hN hK os j [] [] rfl (by decide) (fun _ => decide_eq_false (fun q => by cases q.1))
  have x0 := pg.2 j
  generalize j_sm K (j_one K V nm 8) j = x at *
  by_cases z : x.1 = 0
  · have n := x0 z
    have t := s.1 z
    refine j_to_no t (j_no_st ?_)
    show j_be false K [] x.2.1 ([] ++ x.2.2) = _
    have bt : j_bt false (K x.2.1) [] = -1 := by
      unfold j_bt
      rw [if_neg (by omega), if_neg (by omega), if_neg (by omega), if_neg (by omega), if_neg (by omega), if_neg (fun q => by cases q.1)]
    unfold j_be
    rw [bt, if_neg (by omega), show j_op [] = -1 from rfl, if_neg (by omega), if_neg (by omega), if_neg (by
      intro w
      rcases w with w | w
      · omega
      · cases w.1)]
    obtain ⟨a, b, c⟩ := x
    have z' : a = 0 := z
    rw [z']; rfl
  · exact s.2 z
/-- what a law's text is, read from the token behind its word -/
def j_law (K V : Nat → Int) (nm : Int → Bool) (e : Bool) (j : Nat) : UR := cond e (j_ei K V nm 300 j false false []) (j_sm K (j_one K V nm 8) j)
theorem j_law_no {N : Nat} (hN : N ≤ 300) (hK : ∀ j, N ≤ j → K j = 0) {e : Bool} {j : Nat} (h : 1 ≤ j ∧ j ≤ N) : ∃ n, j_go e K V nm n ([], false, j, []) = some (j_law K V nm e j) := by
  cases e
  · obtain ⟨k, q⟩ := j_sm_no (K := K) (V := V) (nm := nm) hN hK j
    exact ⟨k, by have := q 0; rw [Nat.add_zero] at this; exact this⟩
  · obtain ⟨k, q⟩ := j_ei_no (K := K) (V := V) (nm := nm) hN hK 300 j false false [] h.2 (by omega)
    exact ⟨k, by have := q 0; rw [Nat.add_zero] at this; exact this⟩
end

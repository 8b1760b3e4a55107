/-! THE PURE PART, 80: descent and pile read one alike -/
section
variable {e : Bool} {K V : Nat → Int} {nm : Int → Bool}
theorem j_bd_0 {x : UR} {f : Nat → List (Int × Int) → UR} (h : (j_bd x f).1 = 0) : x.1 = 0 ∧ j_bd x f = f x.2.1 x.2.2 := by
  unfold j_bd at h ⊢
  by_cases c : x.1 = 0
  · exact ⟨c, if_pos c⟩
  · rw [if_neg c] at h; exact absurd h c
theorem j_ex_0 {k : Int} {j : Nat} {x : UR} (h : (j_ex K k j x).1 = 0) : K j = k ∧ j_ex K k j x = x := by
  unfold j_ex at h ⊢
  by_cases c : K j = k
  · exact ⟨c, if_pos c⟩
  · rw [if_neg c] at h; cases h
theorem j_lp_Q {it : Nat → UR} {Q : Nat → Prop} (hi : ∀ j, (it j).1 = 0 → Q (it j).2.1) {lo hi' : Int} : ∀ (m j : Nat) (C : List (Int × Int)), Q j → (j_lp K it lo hi' m j C).1 = 0 → Q (j_lp K it lo hi' m j C).2.1
  | 0, _, _, h, _ => h
  | m + 1, j, C, h, h0 => by
    unfold j_lp at h0 ⊢
    by_cases c : lo ≤ K j ∧ K j ≤ hi'
    · rw [if_pos c] at h0 ⊢
      obtain ⟨q1, q2⟩ := j_bd_0 h0
      rw [q2] at h0 ⊢
      exact j_lp_Q hi m _ _ (hi _ q1) h0
    · rw [if_neg c]; exact h
theorem j_ch_Q {it : Nat → UR} {Q : Nat → Prop} (hi : ∀ j, (it j).1 = 0 → Q (it j).2.1) {lo hi' : Int} (j : Nat) (h0 : (j_ch K it lo hi' j).1 = 0) : Q (j_ch K it lo hi' j).2.1 := by
  unfold j_ch at h0 ⊢
  obtain ⟨q1, q2⟩ := j_bd_0 h0
  rw [q2] at h0 ⊢
  exact j_lp_Q hi 300 _ _ (hi _ q1) h0
theorem j_sm_pg {N : Nat} (hN : N ≤ 300) (hK : ∀ j, N ≤ j → K j = 0) {it : Nat → UR} (hi : j_pg N it) : j_pg N (j_sm K it) ∧ ∀ j, (j_sm K it j).1 = 0 → ¬ (3 ≤ K (j_sm K it j).2.1 ∧ K (j_sm K it j).2.1 ≤ 7) := by
  have h1 := j_ch_pg hN hK hi (lo := 5) (hi' := 7) (by omega)
  have h2 := j_ch_pg hN hK h1.1 (lo := 3) (hi' := 4) (by omega)
  refine ⟨h2.1, fun j h => ?_⟩
  have a := h2.2 j h
  have b := j_ch_Q (Q := fun i => ¬ (5 ≤ K i ∧ K i ≤ 7)) h1.2 j h
  show ¬ (3 ≤ K (j_ch K (j_ch K it 5 7) 3 4 j).2.1 ∧ K (j_ch K (j_ch K it 5 7) 3 4 j).2.1 ≤ 7)
  omega
theorem j_at_pg {N : Nat} (hK : ∀ j, N ≤ j → K j = 0) {j : Nat} {x : UR} (hx : x.1 = 0 → j < x.2.1 ∧ x.2.1 ≤ N ∧ x.2.2.length + j ≤ x.2.1) (h : (j_at K V nm j x).1 = 0) : j < (j_at K V nm j x).2.1 ∧ (j_at K V nm j x).2.1 ≤ N ∧ (j_at K V nm j x).2.2.length + j ≤ (j_at K V nm j x).2.1 := by
  have hj : K j ≠ 0 → j + 1 ≤ N := fun q => by
    by_cases z : j < N
    · omega
    · exact absurd (hK j (by omega)) q
  unfold j_at at h ⊢
  by_cases c1 : K j = 2
  · rw [if_pos c1] at h ⊢
    by_cases c2 : 9999 < V j
    · rw [if_pos c2] at h; cases h
    · rw [if_neg c2]
      exact ⟨Nat.lt_succ_self j, hj (by omega), by show 1 + j ≤ j + 1; omega⟩
  · rw [if_neg c1] at h ⊢
    by_cases c2 : 18 ≤ K j ∧ K j ≤ 27
    · rw [if_pos c2] at h ⊢
      by_cases c3 : nm (K j - 18) = true
      · rw [if_pos c3]
        exact ⟨Nat.lt_succ_self j, hj (by omega), by show 1 + j ≤ j + 1; omega⟩
      · rw [if_neg c3] at h; cases h
    · rw [if_neg c2] at h ⊢
      by_cases c3 : K j = 12 ∨ K j = 4 ∨ K j = 44
      · rw [if_pos c3] at h ⊢; exact hx h
      · rw [if_neg c3] at h; cases h
theorem j_one_pg {N : Nat} (hN : N ≤ 300) (hK : ∀ j, N ≤ j → K j = 0) : ∀ r, j_pg N (j_one K V nm r)
  | 0, j, h => j_at_pg hK (fun q => by cases q) h
  | r + 1, j, h => by
    have ih := j_one_pg hN hK r
    have sm := (j_sm_pg hN hK ih).1
    have hj : ∀ i, K i ≠ 0 → i + 1 ≤ N := fun i q => by
      by_cases z : i < N
      · omega
      · exact absurd (hK i (by omega)) q
    refine j_at_pg hK (fun q => ?_) h
    by_cases c1 : K j = 4
    · rw [if_pos c1] at q ⊢
      obtain ⟨q1, q2⟩ := j_bd_0 q
      rw [q2]
      have p := ih _ q1
      refine ⟨by show j < (j_one K V nm r (j + 1)).2.1; omega, p.2.1, ?_⟩
      show ((j_one K V nm r (j + 1)).2.2 ++ [((3 : Int), (0 : Int))]).length + j ≤ (j_one K V nm r (j + 1)).2.1
      rw [List.length_append, List.length_singleton]; omega
    · rw [if_neg c1] at q ⊢
      by_cases c2 : K j = 12
      · rw [if_pos c2] at q ⊢
        obtain ⟨q1, q2⟩ := j_bd_0 q
        rw [q2] at q ⊢
        obtain ⟨q3, q4⟩ := j_ex_0 q
        rw [q4]
        have p := sm _ q1
        have p2 := hj _ (by rw [q3]; decide : K (j_sm K (j_one K V nm r) (j + 1)).2.1 ≠ 0)
        exact ⟨by show j < (j_sm K (j_one K V nm r) (j + 1)).2.1 + 1; omega, p2, by show (j_sm K (j_one K V nm r) (j + 1)).2.2.length + j ≤ (j_sm K (j_one K V nm r) (j + 1)).2.1 + 1; omega⟩
      · rw [if_neg c2] at q ⊢
        obtain ⟨_, q0⟩ := j_ex_0 q
        rw [q0] at q ⊢
        obtain ⟨q1, q2⟩ := j_bd_0 q
        rw [q2] at q ⊢
        have p1 := sm _ q1
        generalize j_sm K (j_one K V nm r) (j + 2) = x1 at *
        obtain ⟨_, q3⟩ := j_ex_0 q
        rw [q3] at q ⊢
        obtain ⟨q4, q5⟩ := j_bd_0 q
        rw [q5] at q ⊢
        have p2 := sm _ q4
        generalize j_sm K (j_one K V nm r) (x1.2.1 + 1) = x2 at *
        obtain ⟨_, q6⟩ := j_ex_0 q
        rw [q6] at q ⊢
        obtain ⟨q7, q8⟩ := j_bd_0 q
        rw [q8] at q ⊢
        have p3 := sm _ q7
        generalize j_sm K (j_one K V nm r) (x2.2.1 + 1) = x3 at *
        obtain ⟨q9, q10⟩ := j_ex_0 q
        rw [q10]
        have p4 := hj _ (by rw [q9]; decide : K x3.2.1 ≠ 0)
        refine ⟨by show j < x3.2.1 + 1; omega, p4, ?_⟩
        show (x1.2.2 ++ x2.2.2 ++ x3.2.2 ++ [((2 : Int), (0 : Int))]).length + j ≤ x3.2.1 + 1
        rw [List.length_append, List.length_append, List.length_append, List.length_singleton]
        omega
theorem j_cn_bin {o : Int} {P : List Int} (h : j_rk o = 5 ∨ j_rk o = 6) (ho : o < 40) : j_cn (o :: P) = j_cn P := by
  show (if 40 ≤ o ∨ o = 3 ∨ o = 20 then 1 else 0) + j_cn P = j_cn P
  have n3 : o ≠ 3 := fun q => by rw [q] at h; rcases h with h | h <;> cases h
  have n20 : o ≠ 20 := fun q => by rw [q] at h; rcases h with h | h <;> cases h
  rw [if_neg (by omega)]; omega
theorem j_cn_op {o : Int} {P : List Int} (h : 40 ≤ o ∨ o = 3 ∨ o = 20) : j_cn (o :: P) = 1 + j_cn P := by
  show (if 40 ≤ o ∨ o = 3 ∨ o = 20 then 1 else 0) + j_cn P = _
  rw [if_pos h]
theorem j_ah_hi {o : Int} {P : List Int} (h : 4 ≤ j_rk o) : j_ah e (o :: P) = false := decide_eq_false (fun q => by
  rcases q.2.2 with z | z
  · cases z
  · have z' : 1 ≤ j_rk o ∧ j_rk o ≤ 3 := z; omega)
theorem j_ah_op {o : Int} {P : List Int} (h : 40 ≤ o) : j_ah e (o :: P) = false := decide_eq_false (fun q => by
  have z : (if o < 40 then j_op P else o) = -1 := q.2.1
  rw [if_neg (by omega)] at z; omega)
def j_os (e : Bool) (K V : Nat → Int) (nm : Int → Bool) (r : Nat) : Prop := ∀ (j : Nat) (P : List Int) (C : List (Int × Int)), j_cn P + r = 8 → (K j = 43 → j_ah e P = false) → j_si e K V nm (P, false, j, C) (j_one K V nm r j) (fun j' D => ((j_set 7 P (C ++ D)).1, true, j', (j_set 7 P (C ++ D)).2))
theorem j_pr_si {N : Nat} (hN : N ≤ 300) (hK : ∀ j, N ≤ j → K j = 0) {r : Nat} (ho : j_os e K V nm r) (j : Nat) (P : List Int) (C : List (Int × Int)) (hc : j_cn P + r = 8) (ht : j_tp P < 6) (hn : K j = 43 → j_ah e P = false) : j_si e K V nm (P, false, j, C) (j_ch K (j_one K V nm r) 5 7 j) (fun j' D => (P, true, j', C ++ D)) := by
  have pg := j_one_pg (K := K) (V := V) (nm := nm) hN hK r
  unfold j_ch
  refine j_si_bd (ho j P C hc hn) (fun h0 => ?_)
  have p := pg j h0
  rw [j_set_no (Or.inr (by omega))]
  exact j_lp_si hN hK pg (lo := 5) (hi' := 7) (r := 6) (by omega) (Or.inl ⟨rfl, rfl⟩) (fun q => by omega) ht (fun o i D h1 h2 => by
    have q := ho i (o :: P) D (by rw [j_cn_bin (Or.inr h1) h2]; exact hc) (fun _ => j_ah_hi (by omega))
    have q2 : ∀ D', j_set 7 (o :: P) D' = (o :: P, D') := fun D' => j_set_no (Or.inr (by show j_rk o < 7; omega))
    simp only [q2] at q
    exact q) 300 _ _ C p.2.1
theorem j_sm_si {N : Nat} (hN : N ≤ 300) (hK : ∀ j, N ≤ j → K j = 0) {r : Nat} (ho : j_os e K V nm r) (j : Nat) (P : List Int) (C : List (Int × Int)) (hc : j_cn P + r = 8) (ht : j_tp P < 5) (hn : K j = 43 → j_ah e P = false) : j_si e K V nm (P, false, j, C) (j_sm K (j_one K V nm r) j) (fun j' D => (P, true, j', C ++ D)) := by
  have pg := j_ch_pg hN hK (j_one_pg (K := K) (V := V) (nm := nm) hN hK r) (lo := 5) (hi' := 7) (by omega)
  unfold j_sm j_ch
  refine j_si_bd (j_pr_si hN hK ho j P C hc (by omega) hn) (fun h0 => ?_)
  have p := pg.1 j h0
  exact j_lp_si hN hK pg.1 (lo := 3) (hi' := 4) (r := 5) (by omega) (Or.inr ⟨rfl, rfl, rfl⟩) (fun _ => pg.2) ht (fun o i D h1 h2 => j_pr_si hN hK ho i (o :: P) D (by rw [j_cn_bin (Or.inl h1) h2]; exact hc) (by show j_rk o < 6; omega) (fun _ => j_ah_hi (by omega))) 300 _ _ C p.2.1
end

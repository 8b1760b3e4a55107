/-! THE PURE PART, 79: descent and pile read alike -/
section
variable {e : Bool} {K V : Nat → Int} {nm : Int → Bool}
theorem j_rk_in (o : Int) : 0 ≤ j_rk o ∧ j_rk o ≤ 7 := by
  unfold j_rk
  repeat' split
  all_goals omega
theorem j_set_set {r r' : Int} (h : r ≤ r') : ∀ (P : List Int) (C : List (Int × Int)), j_set r P C = j_set r (j_set r' P C).1 (j_set r' P C).2
  | [], _ => rfl
  | o :: P, C => by
    by_cases c : r' ≤ j_rk o
    · have e1 : j_set r' (o :: P) C = j_set r' P (C ++ [(o, 0)]) := if_pos c
      have e2 : j_set r (o :: P) C = j_set r P (C ++ [(o, 0)]) := if_pos (by omega)
      rw [e1, e2]
      exact j_set_set h P _
    · have e1 : j_set r' (o :: P) C = (o :: P, C) := if_neg c
      rw [e1]
theorem j_set_op {r : Int} (h : 1 ≤ r) : ∀ (P : List Int) (C : List (Int × Int)), j_op (j_set r P C).1 = j_op P
  | [], _ => rfl
  | o :: P, C => by
    by_cases c : r ≤ j_rk o
    · have e1 : j_set r (o :: P) C = j_set r P (C ++ [(o, 0)]) := if_pos c
      have o4 : o < 40 := by
        by_cases q : o < 40
        · exact q
        · have : j_rk o = 0 := if_pos (by omega)
          omega
      rw [e1, j_set_op h P]
      show _ = if o < 40 then j_op P else o
      rw [if_pos o4]
    · have e1 : j_set r (o :: P) C = (o :: P, C) := if_neg c
      rw [e1]
theorem j_set_cm {r : Int} (h : 5 ≤ r) : ∀ (P : List Int) (C : List (Int × Int)), j_cm (j_set r P C).1 = j_cm P
  | [], _ => rfl
  | o :: P, C => by
    by_cases c : r ≤ j_rk o
    · have e1 : j_set r (o :: P) C = j_set r P (C ++ [(o, 0)]) := if_pos c
      rw [e1, j_set_cm h P]
      show _ = if 4 < j_rk o then j_cm P else _
      rw [if_pos (by omega)]
    · have e1 : j_set r (o :: P) C = (o :: P, C) := if_neg c
      rw [e1]
theorem j_bt_eq {k : Int} {P P' : List Int} (h1 : j_op P = j_op P') (h2 : j_cm P = j_cm P') : j_bt e k P = j_bt e k P' := by
  unfold j_bt; rw [h1, h2]
theorem j_cp_rk (k : Int) (h : 0 ≤ j_cp k) : j_rk (j_cp k) = 4 := by
  unfold j_cp at h ⊢
  repeat' split
  all_goals first | rfl | (exfalso; simp_all)
theorem j_bt_rk {k : Int} {P : List Int} (h : 0 ≤ j_bt e k P) : j_rk (j_bt e k P) ≤ 6 ∧ (¬ (5 ≤ k ∧ k ≤ 7) → j_rk (j_bt e k P) ≤ 5) := by
  unfold j_bt at h ⊢
  by_cases c3 : k = 3
  · rw [if_pos c3]; exact ⟨by decide, fun _ => by decide⟩
  rw [if_neg c3] at h ⊢
  by_cases c4 : k = 4
  · rw [if_pos c4]; exact ⟨by decide, fun _ => by decide⟩
  rw [if_neg c4] at h ⊢
  by_cases c5 : k = 5
  · rw [if_pos c5]; exact ⟨by decide, fun q => by omega⟩
  rw [if_neg c5] at h ⊢
  by_cases c6 : k = 6
  · rw [if_pos c6]; exact ⟨by decide, fun q => by omega⟩
  rw [if_neg c6] at h ⊢
  by_cases c7 : k = 7
  · rw [if_pos c7]; exact ⟨by decide, fun q => by omega⟩
  rw [if_neg c7] at h ⊢
  by_cases c8 : e = true ∧ j_op P = -1
  · rw [if_pos c8] at h ⊢
    by_cases q : ¬ j_cm P = true
    · rw [if_neg q] at h ⊢
      have := j_cp_rk k h
      omega
    · rw [if_pos (Decidable.not_not.mp q)] at h ⊢
      by_cases c9 : k = 42
      · rw [if_pos c9]; exact ⟨by decide, fun _ => by decide⟩
      rw [if_neg c9] at h ⊢
      by_cases c10 : k = 41
      · rw [if_pos c10]; exact ⟨by decide, fun _ => by decide⟩
      · rw [if_neg c10] at h; omega
  · rw [if_neg c8] at h; omega
/-- what waits on the pile may be settled before -/
theorem j_lazy {r : Int} (hr : 5 ≤ r) {P : List Int} {C : List (Int × Int)} {j : Nat} (h : 6 ≤ r ∨ ¬ (5 ≤ K j ∧ K j ≤ 7)) : j_to e K V nm (P, true, j, C) ((j_set r P C).1, true, j, (j_set r P C).2) := by
  apply j_to_eq
  show j_be e K P j C = j_be e K (j_set r P C).1 j (j_set r P C).2
  have e1 := j_set_op (show (1 : Int) ≤ r by omega) P C
  have e2 := j_set_cm hr P C
  have e3 : j_bt e (K j) (j_set r P C).1 = j_bt e (K j) P := j_bt_eq e1 e2
  have e4 := j_set_set (show (1 : Int) ≤ r by omega) P C
  unfold j_be
  rw [e3, e1, e2, ← e4]
  by_cases c : 0 ≤ j_bt e (K j) P
  · have k := j_bt_rk c
    have e5 := j_set_set (show j_rk (j_bt e (K j) P) ≤ r by omega) P C
    rw [if_pos c, if_pos c, ← e5]
  · rw [if_neg c, if_neg c]
theorem j_set_no {r : Int} {P : List Int} {C : List (Int × Int)} (h : P = [] ∨ j_tp P < r) : j_set r P C = (P, C) := by
  cases P with
  | nil => rfl
  | cons o P =>
    rcases h with h | h
    · cases h
    · exact if_neg (by have h' : j_rk o < r := h; omega)
theorem j_tp_lt {P : List Int} {r : Int} (h : j_tp P < r) (hr : 0 ≤ r) : P = [] ∨ j_tp P < r := Or.inr h
theorem j_bt_sg {k : Int} {P : List Int} (h : 3 ≤ k ∧ k ≤ 7) : j_bt e k P = k + 1 := by
  unfold j_bt
  by_cases c3 : k = 3
  · rw [if_pos c3, c3]; rfl
  rw [if_neg c3]
  by_cases c4 : k = 4
  · rw [if_pos c4, c4]; rfl
  rw [if_neg c4]
  by_cases c5 : k = 5
  · rw [if_pos c5, c5]; rfl
  rw [if_neg c5]
  by_cases c6 : k = 6
  · rw [if_pos c6, c6]; rfl
  rw [if_neg c6]
  have c7 : k = 7 := by omega
  rw [if_pos c7, c7]; rfl
theorem j_sgn {P : List Int} {C : List (Int × Int)} {j : Nat} (hk : 3 ≤ K j ∧ K j ≤ 7) (h : j_tp P < j_rk (K j + 1)) : j_to e K V nm (P, true, j, C) ((K j + 1) :: P, false, j + 1, C) := by
  apply j_to_st
  show j_be e K P j C = _
  unfold j_be
  rw [j_bt_sg hk, if_pos (by omega), j_set_no (Or.inr h)]
/-- a chain of ones (of products), when each reads alike upon a higher pile -/
theorem j_lp_si {N : Nat} (hN : N ≤ 300) (hK : ∀ j, N ≤ j → K j = 0) {it : Nat → UR} (hi : j_pg N it) {lo hi' r : Int} (hl : 3 ≤ lo ∧ hi' ≤ 7) (hr : (r = 6 ∧ lo = 5) ∨ (r = 5 ∧ lo = 3 ∧ hi' = 4)) (hex : r = 5 → ∀ j, (it j).1 = 0 → ¬ (5 ≤ K (it j).2.1 ∧ K (it j).2.1 ≤ 7)) {P : List Int} (hP : j_tp P < r) (hit : ∀ (o : Int) (j : Nat) (C : List (Int × Int)), j_rk o = r → o < 40 → j_si e K V nm (o :: P, false, j, C) (it j) (fun j' D => (o :: P, true, j', C ++ D))) : ∀ (m j : Nat) (C A : List (Int × Int)), j ≤ N → j_si e K V nm (P, true, j, A ++ C) (j_lp K it lo hi' m j C) (fun j' D => (P, true, j', A ++ D))
  | 0, j, C, A, _ => j_si_ok (j_to_rf _)
  | m + 1, j, C, A, hj => by
    unfold j_lp
    by_cases c : lo ≤ K j ∧ K j ≤ hi'
    · rw [if_pos c]
      have rk : j_rk (K j + 1) = r := by
        rcases hr with ⟨h1, h2⟩ | ⟨h1, h2, h3⟩
        · have : K j = 5 ∨ K j = 6 ∨ K j = 7 := by omega
          rcases this with q | q | q <;> rw [q, h1] <;> rfl
        · have : K j = 3 ∨ K j = 4 := by omega
          rcases this with q | q <;> rw [q, h1] <;> rfl
      refine j_si_to (j_sgn (K := K) (by omega) (by rw [rk]; exact hP)) ?_
      refine j_si_bd (hit (K j + 1) (j + 1) (A ++ C) rk (by omega)) (fun h0 => ?_)
      have hp := hi (j + 1) h0
      have ls := j_lazy (e := e) (K := K) (V := V) (nm := nm) (r := r) (by omega) (P := (K j + 1) :: P) (C := A ++ C ++ (it (j + 1)).2.2) (j := (it (j + 1)).2.1) (by
        rcases hr with h1 | h1
        · exact Or.inl (by omega)
        · exact Or.inr (hex h1.1 _ h0))
      have es : j_set r ((K j + 1) :: P) (A ++ C ++ (it (j + 1)).2.2) = (P, A ++ (C ++ (it (j + 1)).2.2 ++ [(K j + 1, 0)])) := by
        have q : j_set r ((K j + 1) :: P) (A ++ C ++ (it (j + 1)).2.2) = j_set r P (A ++ C ++ (it (j + 1)).2.2 ++ [(K j + 1, 0)]) := if_pos (by omega)
        rw [q, j_set_no (Or.inr hP)]
        simp only [List.append_assoc]
      rw [es] at ls
      exact j_si_to ls (j_lp_si hN hK hi hl hr hex hP hit m (it (j + 1)).2.1 (C ++ (it (j + 1)).2.2 ++ [(K j + 1, 0)]) A hp.2.1)
    · rw [if_neg c]
      exact j_si_ok (j_to_rf _)
end

/-! THE PURE PART, 81: descent and pile read a law alike -/
section
variable {e : Bool} {K V : Nat → Int} {nm : Int → Bool}
theorem j_bt_no {k : Int} {P : List Int} (h : ¬ (3 ≤ k ∧ k ≤ 7)) (hp : 0 ≤ j_op P) : j_bt e k P = -1 := by
  unfold j_bt
  rw [if_neg (by omega), if_neg (by omega), if_neg (by omega), if_neg (by omega), if_neg (by omega), if_neg (by omega)]
theorem j_set_op0 {r o : Int} (hr : 1 ≤ r) (h : 40 ≤ o) {P : List Int} {C : List (Int × Int)} : j_set r (o :: P) C = (o :: P, C) := if_neg (by
  have : j_rk o = 0 := if_pos h
  omega)
theorem j_op_c {o : Int} (h : 40 ≤ o) {P : List Int} : j_op (o :: P) = o := if_neg (by omega)
/-- behind a sum that stands in brackets -/
theorem j_cl {o : Int} (ho : o = 40 ∨ o = 43) {P : List Int} {C : List (Int × Int)} {j : Nat} (hj : K j = 13) : j_to e K V nm (o :: P, true, j, C) ((j_set 7 P (if o = 43 then C ++ [(2, 0)] else C)).1, true, j + 1, (j_set 7 P (if o = 43 then C ++ [(2, 0)] else C)).2) := by
  apply j_to_st
  show j_be e K (o :: P) j C = _
  unfold j_be
  rw [j_bt_no (by omega) (by rw [j_op_c (by omega)]; omega), if_neg (by omega), j_op_c (by omega), if_pos ⟨ho, hj⟩, j_set_op0 (by omega) (by omega)]
  rfl
theorem j_co {o : Int} (ho : o = 41 ∨ o = 42) {P : List Int} {C : List (Int × Int)} {j : Nat} (hj : K j = 14) : j_to e K V nm (o :: P, true, j, C) ((o + 1) :: P, false, j + 1, C) := by
  apply j_to_st
  show j_be e K (o :: P) j C = _
  unfold j_be
  rw [j_bt_no (by omega) (by rw [j_op_c (by omega)]; omega), if_neg (by omega), j_op_c (by omega), if_neg (by omega), if_pos ⟨ho, hj⟩, j_set_op0 (by omega) (by omega)]
  rfl
theorem j_cx {o : Int} (ho : 40 ≤ o) {P : List Int} {C : List (Int × Int)} {j : Nat} (h3 : ¬ (3 ≤ K j ∧ K j ≤ 7)) (h1 : ¬ ((o = 40 ∨ o = 43) ∧ K j = 13)) (h2 : ¬ ((o = 41 ∨ o = 42) ∧ K j = 14)) : j_st e K V nm (o :: P, true, j, C) = .inr (1, j, []) := by
  show j_be e K (o :: P) j C = _
  unfold j_be
  rw [j_bt_no h3 (by rw [j_op_c ho]; omega), if_neg (by omega), j_op_c ho, if_neg h1, if_neg h2, if_pos (Or.inl (by omega))]
theorem j_at_si {j : Nat} {P : List Int} {C : List (Int × Int)} {x : UR} (hn : K j = 43 → j_ah e P = false) (hx : K j = 12 ∨ K j = 4 ∨ K j = 44 → j_si e K V nm (P, false, j, C) x (fun j' D => ((j_set 7 P (C ++ D)).1, true, j', (j_set 7 P (C ++ D)).2))) : j_si e K V nm (P, false, j, C) (j_at K V nm j x) (fun j' D => ((j_set 7 P (C ++ D)).1, true, j', (j_set 7 P (C ++ D)).2)) := by
  unfold j_at
  by_cases c1 : K j = 2
  · rw [if_pos c1]
    by_cases c2 : 9999 < V j
    · rw [if_pos c2]
      refine j_si_er (by show (2 : Int) ≠ 0; decide) ?_
      show j_bg e K V nm P j C = _
      unfold j_bg
      rw [if_pos c1, if_pos c2]
    · rw [if_neg c2]
      refine j_si_ok (j_to_st ?_)
      show j_bg e K V nm P j C = _
      unfold j_bg
      rw [if_pos c1, if_neg c2]
  · rw [if_neg c1]
    by_cases c2 : 18 ≤ K j ∧ K j ≤ 27
    · rw [if_pos c2]
      by_cases c3 : nm (K j - 18) = true
      · rw [if_pos c3]
        refine j_si_ok (j_to_st ?_)
        show j_bg e K V nm P j C = _
        unfold j_bg
        rw [if_neg c1, if_pos c2, if_pos c3]
      · rw [if_neg c3]
        refine j_si_er (by show (5 : Int) ≠ 0; decide) ?_
        show j_bg e K V nm P j C = _
        unfold j_bg
        rw [if_neg c1, if_pos c2, if_neg c3]
    · rw [if_neg c2]
      by_cases c3 : K j = 12 ∨ K j = 4 ∨ K j = 44
      · rw [if_pos c3]; exact hx c3
      · rw [if_neg c3]
        refine j_si_er (by show (1 : Int) ≠ 0; decide) ?_
        show j_bg e K V nm P j C = _
        unfold j_bg
        rw [if_neg c1, if_neg c2, if_neg (fun q => c3 (Or.inl q)), if_neg (fun q => c3 (Or.inr (Or.inl q))), if_neg (fun q => c3 (Or.inr (Or.inr q))), if_neg (fun q => by rw [hn q.1] at q; exact absurd q.2 (by decide))]
theorem j_one_si {N : Nat} (hN : N ≤ 300) (hK : ∀ j, N ≤ j → K j = 0) : ∀ r, j_os e K V nm r
  | 0, j, P, C, hc, hn => by
    refine j_at_si hn (fun h => ?_)
    refine j_si_er (by show (3 : Int) ≠ 0; decide) ?_
    show j_bg e K V nm P j C = _
    have c8 : j_cn P = 8 := by omega
    unfold j_bg j_pu
    rw [if_neg (by omega), if_neg (by omega)]
    rcases h with h | h | h
    · rw [if_pos h, if_pos c8]
    · rw [if_neg (by omega), if_pos h, if_pos c8]
    · rw [if_neg (by omega), if_neg (by omega), if_pos h, if_pos c8]
  | r + 1, j, P, C, hc, hn => by
    have ih := j_one_si hN hK r
    have c8 : ¬ j_cn P = 8 := by omega
    have sx := (j_sm_pg hN hK (j_one_pg (K := K) (V := V) (nm := nm) hN hK r)).2
    refine j_at_si hn (fun h => ?_)
    by_cases c1 : K j = 4
    · rw [if_pos c1]
      have s0 : j_to e K V nm (P, false, j, C) (3 :: P, false, j + 1, C) := by
        apply j_to_st
        show j_bg e K V nm P j C = _
        unfold j_bg j_pu
        rw [if_neg (by omega), if_neg (by omega), if_neg (by omega), if_pos c1, if_neg c8]
      refine j_si_to s0 ?_
      refine j_si_bd (ih (j + 1) (3 :: P) C (by rw [j_cn_op (by omega)]; omega) (fun _ => j_ah_hi (by decide))) (fun h0 => ?_)
      refine j_si_ok ?_
      have es : ∀ D, j_set 7 (3 :: P) (C ++ D) = j_set 7 P (C ++ (D ++ [(3, 0)])) := fun D => by
        have q : j_set 7 (3 :: P) (C ++ D) = j_set 7 P (C ++ D ++ [(3, 0)]) := if_pos (by decide)
        rw [q, List.append_assoc]
      rw [es]
      exact j_to_rf _
    · rw [if_neg c1]
      by_cases c2 : K j = 12
      · rw [if_pos c2]
        have s0 : j_to e K V nm (P, false, j, C) (40 :: P, false, j + 1, C) := by
          apply j_to_st
          show j_bg e K V nm P j C = _
          unfold j_bg j_pu
          rw [if_neg (by omega), if_neg (by omega), if_pos c2, if_neg c8]
        refine j_si_to s0 ?_
        refine j_si_bd (j_sm_si hN hK ih (j + 1) (40 :: P) C (by rw [j_cn_op (by omega)]; omega) (show j_rk 40 < 5 by decide) (fun _ => j_ah_op (by omega))) (fun h0 => ?_)
        have x0 := sx _ h0
        try dsimp only
        unfold j_ex
        by_cases c3 : K (j_sm K (j_one K V nm r) (j + 1)).2.1 = 13
        · rw [if_pos c3]
          have := j_cl (e := e) (K := K) (V := V) (nm := nm) (o := 40) (Or.inl rfl) (P := P) (C := C ++ (j_sm K (j_one K V nm r) (j + 1)).2.2) c3
          rw [if_neg (by decide)] at this
          exact j_si_ok this
        · rw [if_neg c3]
          exact j_si_er (by show (1 : Int) ≠ 0; decide) (j_cx (by omega) x0 (fun q => c3 q.2) (fun q => by omega))
      · rw [if_neg c2]
        have c4 : K j = 44 := by omega
        unfold j_ex
        by_cases c5 : K (j + 1) = 12
        · rw [if_pos c5]
          have s0 : j_to e K V nm (P, false, j, C) (41 :: P, false, j + 2, C) := by
            apply j_to_st
            show j_bg e K V nm P j C = _
            unfold j_bg
            rw [if_neg (by omega), if_neg (by omega), if_neg c2, if_neg c1, if_pos c4, if_neg c8, if_pos c5]
          refine j_si_to s0 ?_
          have cn : ∀ o : Int, 40 ≤ o → j_cn (o :: P) + r = 8 := fun o ho => by rw [j_cn_op (Or.inl ho)]; omega
          refine j_si_bd (j_sm_si hN hK ih (j + 2) (41 :: P) C (cn _ (by omega)) (show j_rk 41 < 5 by decide) (fun _ => j_ah_op (by omega))) (fun h0 => ?_)
          have x0 := sx _ h0
          try dsimp only
          generalize j_sm K (j_one K V nm r) (j + 2) = x1 at *
          by_cases c6 : K x1.2.1 = 14
          · rw [if_pos c6]
            refine j_si_to (j_co (Or.inl rfl) c6) ?_
            refine j_si_bd (j_sm_si hN hK ih (x1.2.1 + 1) (42 :: P) (C ++ x1.2.2) (cn _ (by omega)) (show j_rk 42 < 5 by decide) (fun _ => j_ah_op (by omega))) (fun h1 => ?_)
            have x1' := sx _ h1
            try dsimp only
            generalize j_sm K (j_one K V nm r) (x1.2.1 + 1) = x2 at *
            by_cases c7 : K x2.2.1 = 14
            · rw [if_pos c7]
              refine j_si_to (j_co (Or.inr rfl) c7) ?_
              refine j_si_bd (j_sm_si hN hK ih (x2.2.1 + 1) (43 :: P) (C ++ x1.2.2 ++ x2.2.2) (cn _ (by omega)) (show j_rk 43 < 5 by decide) (fun _ => j_ah_op (by omega))) (fun h2 => ?_)
              have x2' := sx _ h2
              try dsimp only
              generalize j_sm K (j_one K V nm r) (x2.2.1 + 1) = x3 at *
              by_cases c9 : K x3.2.1 = 13
              · rw [if_pos c9]
                have := j_cl (e := e) (K := K) (V := V) (nm := nm) (o := 43) (Or.inr rfl) (P := P) (C := C ++ x1.2.2 ++ x2.2.2 ++ x3.2.2) c9
                rw [if_pos rfl] at this
                refine j_si_ok ?_
                simp only [List.append_assoc] at this ⊢
                exact this
              · rw [if_neg c9]
                exact j_si_er (by show (1 : Int) ≠ 0; decide) (j_cx (by omega) x2' (fun q => c9 q.2) (fun q => by omega))
            · rw [if_neg c7]
              exact j_si_er (by show (1 : Int) ≠ 0; decide) (j_cx (by omega) x1' (fun q => by omega) (fun q => c7 q.2))
          · rw [if_neg c6]
            exact j_si_er (by show (1 : Int) ≠ 0; decide) (j_cx (by omega) x0 (fun q => by omega) (fun q => c6 q.2))
        · rw [if_neg c5]
          refine j_si_er (by show (1 : Int) ≠ 0; decide) ?_
          show j_bg e K V nm P j C = _
          unfold j_bg
          rw [if_neg (by omega), if_neg (by omega), if_neg c2, if_neg c1, if_pos c4, if_neg c8, if_neg c5]
end

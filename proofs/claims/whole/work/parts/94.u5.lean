/-! THE PURE PART, 82: asks, and what joins them -/
def j_ask (K V : Nat → Int) (nm : Int → Bool) : Nat → Nat → UR
  | 0, j => if K j = 43 then (3, j, []) else j_bd (j_sm K (j_one K V nm 0) j) (fun j1 D1 => if 0 ≤ j_cp (K j1) then j_bd (j_sm K (j_one K V nm 0) (j1 + 1)) (fun j2 D2 => (0, j2, D1 ++ D2 ++ [(j_cp (K j1), 0)])) else (1, j1, []))
  | r + 1, j => if K j = 43 then j_bd (j_ask K V nm r (j + 1)) (fun j' D => (0, j', D ++ [(20, 0)])) else j_bd (j_sm K (j_one K V nm (r + 1)) j) (fun j1 D1 => if 0 ≤ j_cp (K j1) then j_bd (j_sm K (j_one K V nm (r + 1)) (j1 + 1)) (fun j2 D2 => (0, j2, D1 ++ D2 ++ [(j_cp (K j1), 0)])) else (1, j1, []))
/-- an or waits (ei), an and waits (bo) -/
def j_w (bo : Bool) (C : List (Int × Int)) : List (Int × Int) := cond bo (C ++ [(21, 0)]) C
def j_v (ei : Bool) (C : List (Int × Int)) : List (Int × Int) := cond ei (C ++ [(22, 0)]) C
def j_ei (K V : Nat → Int) (nm : Int → Bool) : Nat → Nat → Bool → Bool → List (Int × Int) → UR
  | 0, j, _, _, _ => (1, j, [])
  | m + 1, j, ei, bo, C => j_bd (j_ask K V nm 8 j) (fun j' D => if K j' = 42 then j_ei K V nm m (j' + 1) ei true (j_w bo (C ++ D)) else if K j' = 41 then j_ei K V nm m (j' + 1) true false (j_v ei (j_w bo (C ++ D))) else (0, j', j_v ei (j_w bo (C ++ D))))
def j_base (ei bo : Bool) : List Int := cond bo (21 :: cond ei [22] []) (cond ei [22] [])
/-- a state behind an ask: what waits is settled as if before -/
def j_aw (P : List Int) (X : List (Int × Int)) (S : US) (j : Nat) : Prop := S.2.1 = true ∧ S.2.2.1 = j ∧ j_set 3 S.1 S.2.2.2 = j_set 3 P X ∧ j_cm S.1 = true ∧ j_op S.1 = -1
section
variable {K V : Nat → Int} {nm : Int → Bool}
theorem j_ask_eq (r j : Nat) (h : K j ≠ 43) : j_ask K V nm r j = j_bd (j_sm K (j_one K V nm r) j) (fun j1 D1 => if 0 ≤ j_cp (K j1) then j_bd (j_sm K (j_one K V nm r) (j1 + 1)) (fun j2 D2 => (0, j2, D1 ++ D2 ++ [(j_cp (K j1), 0)])) else (1, j1, [])) := by
  cases r with
  | zero => exact if_neg h
  | succ r => exact if_neg h
theorem j_cp_in {k : Int} (h : 0 ≤ j_cp k) : 10 ≤ j_cp k ∧ j_cp k ≤ 15 ∧ k ≠ 0 ∧ ¬ (3 ≤ k ∧ k ≤ 7) := by
  unfold j_cp at h ⊢
  by_cases c1 : k = 8
  · rw [if_pos c1]; omega
  rw [if_neg c1] at h ⊢
  by_cases c2 : k = 16
  · rw [if_pos c2]; omega
  rw [if_neg c2] at h ⊢
  by_cases c3 : k = 9
  · rw [if_pos c3]; omega
  rw [if_neg c3] at h ⊢
  by_cases c4 : k = 17
  · rw [if_pos c4]; omega
  rw [if_neg c4] at h ⊢
  by_cases c5 : k = 10
  · rw [if_pos c5]; omega
  rw [if_neg c5] at h ⊢
  by_cases c6 : k = 11
  · rw [if_pos c6]; omega
  · rw [if_neg c6] at h; omega
theorem j_ah_sp {P : List Int} (h : j_ah true P = true) : j_op P = -1 ∧ j_tp P ≤ 3 ∧ j_cm P = false ∧ ∀ C, j_set 4 P C = (P, C) := by
  have q := of_decide_eq_true h
  have tp : j_tp P ≤ 3 := by
    rcases q.2.2 with z | z
    · rw [z]; decide
    · exact z.2
  refine ⟨q.2.1, tp, ?_, fun C => j_set_no (Or.inr (by omega))⟩
  cases P with
  | nil => rfl
  | cons o P =>
    have tp' : j_rk o ≤ 3 := tp
    show (if 4 < j_rk o then j_cm P else decide (j_rk o = 4)) = false
    rw [if_neg (by omega), decide_eq_false (by omega)]
/-- an ask, upon whatever it may stand -/
theorem j_ask_si {N : Nat} (hN : N ≤ 300) (hK : ∀ j, N ≤ j → K j = 0) : ∀ (r j : Nat) (P : List Int) (C : List (Int × Int)), j_cn P + r = 8 → j_ah true P = true → ((j_ask K V nm r j).1 = 0 → ∃ S, j_to true K V nm (P, false, j, C) S ∧ j_aw P (C ++ (j_ask K V nm r j).2.2) S (j_ask K V nm r j).2.1 ∧ ¬ (3 ≤ K (j_ask K V nm r j).2.1 ∧ K (j_ask K V nm r j).2.1 ≤ 7)) ∧ ((j_ask K V nm r j).1 ≠ 0 → j_no true K V nm (P, false, j, C) (j_ask K V nm r j)) := by
  have plain : ∀ (r j : Nat) (P : List Int) (C : List (Int × Int)), K j ≠ 43 → j_cn P + r = 8 → j_ah true P = true → ((j_ask K V nm r j).1 = 0 → ∃ S, j_to true K V nm (P, false, j, C) S ∧ j_aw P (C ++ (j_ask K V nm r j).2.2) S (j_ask K V nm r j).2.1 ∧ ¬ (3 ≤ K (j_ask K V nm r j).2.1 ∧ K (j_ask K V nm r j).2.1 ≤ 7)) ∧ ((j_ask K V nm r j).1 ≠ 0 → j_no true K V nm (P, false, j, C) (j_ask K V nm r j)) := by
    intro r j P C h43 hc ha
    obtain ⟨a1, a2, a3, a4⟩ := j_ah_sp ha
    have os := j_one_si (e := true) (K := K) (V := V) (nm := nm) hN hK r
    have pg := j_sm_pg hN hK (j_one_pg (K := K) (V := V) (nm := nm) hN hK r)
    rw [j_ask_eq r j h43]
    have s1 := j_sm_si hN hK os j P C hc (by omega) (fun q => absurd q h43)
    have s1x := pg.2 j
    have s1p := pg.1 j
    generalize hx1 : j_sm K (j_one K V nm r) j = x1 at *
    by_cases z1 : x1.1 = 0
    · have t1 := s1.1 z1
      have n1 := s1x z1
      have eb : ∀ f, j_bd x1 f = f x1.2.1 x1.2.2 := fun f => if_pos z1
      rw [eb]
      try dsimp only
      by_cases z2 : 0 ≤ j_cp (K x1.2.1)
      · rw [if_pos z2]
        have cp := j_cp_in z2
        have rk := j_cp_rk _ z2
        -- the comparison is laid
        have t2 : j_to true K V nm (P, true, x1.2.1, C ++ x1.2.2) (j_cp (K x1.2.1) :: P, false, x1.2.1 + 1, C ++ x1.2.2) := by
          apply j_to_st
          show j_be true K P x1.2.1 (C ++ x1.2.2) = _
          have bt : j_bt true (K x1.2.1) P = j_cp (K x1.2.1) := by
            unfold j_bt
            rw [if_neg (by omega), if_neg (by omega), if_neg (by omega), if_neg (by omega), if_neg (by omega), if_pos ⟨rfl, a1⟩, a3, if_neg (by decide)]
          unfold j_be
          rw [bt, if_pos z2, rk, a4]
        have cn : j_cn (j_cp (K x1.2.1) :: P) = j_cn P := by
          show (if 40 ≤ j_cp (K x1.2.1) ∨ j_cp (K x1.2.1) = 3 ∨ j_cp (K x1.2.1) = 20 then 1 else 0) + j_cn P = _
          rw [if_neg (by omega)]; omega
        have s3 := j_sm_si hN hK os (x1.2.1 + 1) (j_cp (K x1.2.1) :: P) (C ++ x1.2.2) (by rw [cn]; exact hc) (by show j_rk (j_cp (K x1.2.1)) < 5; omega) (fun _ => j_ah_hi (by omega))
        have s3x := pg.2 (x1.2.1 + 1)
        generalize j_sm K (j_one K V nm r) (x1.2.1 + 1) = x2 at *
        by_cases z3 : x2.1 = 0
        · have eb2 : ∀ f, j_bd x2 f = f x2.2.1 x2.2.2 := fun f => if_pos z3
          rw [eb2]
          dsimp only
          refine ⟨fun _ => ⟨(j_cp (K x1.2.1) :: P, true, x2.2.1, C ++ x1.2.2 ++ x2.2.2), j_to_tr t1 (j_to_tr t2 (s3.1 z3)), ⟨rfl, rfl, ?_, ?_, ?_⟩, s3x z3⟩, fun q => absurd rfl q⟩
          · have q : j_set 3 (j_cp (K x1.2.1) :: P) (C ++ x1.2.2 ++ x2.2.2) = j_set 3 P (C ++ x1.2.2 ++ x2.2.2 ++ [(j_cp (K x1.2.1), 0)]) := if_pos (by omega)
            show j_set 3 (j_cp (K x1.2.1) :: P) (C ++ x1.2.2 ++ x2.2.2) = _
            rw [q]
            simp only [List.append_assoc]
          · show (if 4 < j_rk (j_cp (K x1.2.1)) then j_cm P else decide (j_rk (j_cp (K x1.2.1)) = 4)) = true
            rw [if_neg (by omega), decide_eq_true rk]
          · show (if j_cp (K x1.2.1) < 40 then j_op P else _) = -1
            rw [if_pos (by omega)]; exact a1
        · have eb2 : ∀ f, j_bd x2 f = x2 := fun f => if_neg z3
          rw [eb2]
          exact ⟨fun q => absurd q z3, fun _ => j_to_no t1 (j_to_no t2 (s3.2 z3))⟩
      · rw [if_neg z2]
        refine ⟨fun q => (by cases q), fun _ => j_to_no t1 (j_no_st ?_)⟩
        show j_be true K P x1.2.1 (C ++ x1.2.2) = _
        have bt : j_bt true (K x1.2.1) P = j_cp (K x1.2.1) := by
          unfold j_bt
          rw [if_neg (by omega), if_neg (by omega), if_neg (by omega), if_neg (by omega), if_neg (by omega), if_pos ⟨rfl, a1⟩, a3, if_neg (by decide)]
        unfold j_be
        rw [bt, if_neg z2, a1, if_neg (by omega), if_neg (by omega), if_pos (Or.inr ⟨rfl, a3⟩)]
    · have eb : ∀ f, j_bd x1 f = x1 := fun f => if_neg z1
      rw [eb]
      exact ⟨fun q => absurd q z1, fun _ => s1.2 z1⟩
  intro r
  induction r with
  | zero =>
    intro j P C hc ha
    by_cases h : K j = 43
    · have e1 : j_ask K V nm 0 j = (3, j, []) := if_pos h
      rw [e1]
      refine ⟨fun q => (by cases q), fun _ => j_no_st ?_⟩
      show j_bg true K V nm P j C = _
      unfold j_bg j_pu
      rw [if_neg (by omega), if_neg (by omega), if_neg (by omega), if_neg (by omega), if_neg (by omega), if_pos ⟨h, ha⟩, if_pos (by omega)]
    · exact plain 0 j P C h hc ha
  | succ r ih =>
    intro j P C hc ha
    by_cases h : K j = 43
    · have e1 : j_ask K V nm (r + 1) j = j_bd (j_ask K V nm r (j + 1)) (fun j' D => (0, j', D ++ [(20, 0)])) := if_pos h
      rw [e1]
      obtain ⟨a1, a2, a3, a4⟩ := j_ah_sp ha
      have t0 : j_to true K V nm (P, false, j, C) (20 :: P, false, j + 1, C) := by
        apply j_to_st
        show j_bg true K V nm P j C = _
        unfold j_bg j_pu
        rw [if_neg (by omega), if_neg (by omega), if_neg (by omega), if_neg (by omega), if_neg (by omega), if_pos ⟨h, ha⟩, if_neg (by omega)]
      have ah : j_ah true (20 :: P) = true := decide_eq_true ⟨rfl, a1, Or.inr (by show 1 ≤ j_rk 20 ∧ j_rk 20 ≤ 3; decide)⟩
      have q := ih (j + 1) (20 :: P) C (by rw [j_cn_op (by omega)]; omega) ah
      generalize j_ask K V nm r (j + 1) = x at *
      by_cases z : x.1 = 0
      · have eb : ∀ f, j_bd x f = f x.2.1 x.2.2 := fun f => if_pos z
        rw [eb]
        dsimp only
        obtain ⟨S, s1, ⟨s2, s3, s4, s5, s6⟩, s7⟩ := q.1 z
        refine ⟨fun _ => ⟨S, j_to_tr t0 s1, ⟨s2, s3, ?_, s5, s6⟩, s7⟩, fun w => absurd rfl w⟩
        rw [s4]
        have w : j_set 3 (20 :: P) (C ++ x.2.2) = j_set 3 P (C ++ x.2.2 ++ [(20, 0)]) := if_pos (by decide)
        rw [w, List.append_assoc]
      · have eb : ∀ f, j_bd x f = x := fun f => if_neg z
        rw [eb]
        exact ⟨fun w => absurd w z, fun _ => j_to_no t0 (q.2 z)⟩
    · exact plain (r + 1) j P C h hc ha
end

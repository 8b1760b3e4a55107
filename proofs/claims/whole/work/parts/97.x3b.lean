/-! THE PURE PART, 94b: how far a law goes -/
section
variable {K V : Nat → Int} {nm : Int → Bool} {N : Nat}
theorem j_bd_N {x : UR} {f : Nat → List (Int × Int) → UR} (hx : x.2.1 ≤ N) (hf : x.1 = 0 → (f x.2.1 x.2.2).2.1 ≤ N) : (j_bd x f).2.1 ≤ N := by
  unfold j_bd
  by_cases c : x.1 = 0
  · rw [if_pos c]; exact hf c
  · rw [if_neg c]; exact hx
theorem j_ex_N {k : Int} {j : Nat} {x : UR} (hj : j ≤ N) (hx : K j = k → x.2.1 ≤ N) : (j_ex K k j x).2.1 ≤ N := by
  unfold j_ex
  by_cases c : K j = k
  · rw [if_pos c]; exact hx c
  · rw [if_neg c]; exact hj
theorem q_ltN (hK : ∀ j, N ≤ j → K j = 0) {j : Nat} (h : K j ≠ 0) : j + 1 ≤ N := by
  by_cases z : j < N
  · omega
  · exact absurd (hK j (by omega)) h
theorem j_lp_N (hK : ∀ j, N ≤ j → K j = 0) {it : Nat → UR} (hp : j_pg N it) (hi : ∀ j, j ≤ N → (it j).2.1 ≤ N) {lo hi' : Int} (hl : 1 ≤ lo) : ∀ (m j : Nat) (C : List (Int × Int)), j ≤ N → (j_lp K it lo hi' m j C).2.1 ≤ N
  | 0, j, C, h => h
  | m + 1, j, C, h => by
    unfold j_lp
    by_cases c : lo ≤ K j ∧ K j ≤ hi'
    · rw [if_pos c]
      exact j_bd_N (hi _ (q_ltN hK (by omega))) (fun z => j_lp_N hK hp hi hl m _ _ (hp _ z).2.1)
    · rw [if_neg c]; exact h
theorem j_ch_N (hK : ∀ j, N ≤ j → K j = 0) {it : Nat → UR} (hp : j_pg N it) (hi : ∀ j, j ≤ N → (it j).2.1 ≤ N) {lo hi' : Int} (hl : 1 ≤ lo) (j : Nat) (h : j ≤ N) : (j_ch K it lo hi' j).2.1 ≤ N := by
  unfold j_ch
  exact j_bd_N (hi j h) (fun z => j_lp_N hK hp hi hl _ _ _ (hp _ z).2.1)
theorem j_sm_N (hN : N ≤ 300) (hK : ∀ j, N ≤ j → K j = 0) {it : Nat → UR} (hp : j_pg N it) (hi : ∀ j, j ≤ N → (it j).2.1 ≤ N) (j : Nat) (h : j ≤ N) : (j_sm K it j).2.1 ≤ N := by
  unfold j_sm
  exact j_ch_N hK (j_ch_pg hN hK hp (lo := 5) (hi' := 7) (by omega)).1 (fun i a => j_ch_N hK hp hi (by omega) i a) (by omega) j h
theorem j_at_N (hK : ∀ j, N ≤ j → K j = 0) {j : Nat} {x : UR} (h : j ≤ N) (hx : K j = 12 ∨ K j = 4 ∨ K j = 44 → x.2.1 ≤ N) : (j_at K V nm j x).2.1 ≤ N := by
  unfold j_at
  by_cases c1 : K j = 2
  · rw [if_pos c1]
    by_cases c2 : 9999 < V j
    · rw [if_pos c2]; exact h
    · rw [if_neg c2]; exact q_ltN hK (j := j) (by omega)
  rw [if_neg c1]
  by_cases c2 : 18 ≤ K j ∧ K j ≤ 27
  · rw [if_pos c2]
    by_cases c3 : nm (K j - 18) = true
    · rw [if_pos c3]; exact q_ltN hK (j := j) (by omega)
    · rw [if_neg c3]; exact h
  rw [if_neg c2]
  by_cases c3 : K j = 12 ∨ K j = 4 ∨ K j = 44
  · rw [if_pos c3]; exact hx c3
  · rw [if_neg c3]; exact h
theorem j_one_N (hN : N ≤ 300) (hK : ∀ j, N ≤ j → K j = 0) : ∀ (r j : Nat), j ≤ N → (j_one K V nm r j).2.1 ≤ N
  | 0, j, h => j_at_N hK h (fun _ => h)
  | r + 1, j, h => by
    have ih := j_one_N hN hK r
    have pg := j_one_pg (K := K) (V := V) (nm := nm) hN hK r
    have sp := (j_sm_pg hN hK pg).1
    have sn := fun i hi => j_sm_N hN hK pg ih i hi
    refine j_at_N hK h (fun c => ?_)
    have j1 : j + 1 ≤ N := q_ltN hK (by omega)
    by_cases c1 : K j = 4
    · rw [if_pos c1]
      exact j_bd_N (ih _ j1) (fun z => (pg _ z).2.1)
    rw [if_neg c1]
    by_cases c2 : K j = 12
    · rw [if_pos c2]
      exact j_bd_N (sn _ j1) (fun z => j_ex_N (sp _ z).2.1 (fun k => q_ltN hK (j := (j_sm K (j_one K V nm r) (j + 1)).2.1) (by omega)))
    · rw [if_neg c2]
      refine j_ex_N j1 (fun k => ?_)
      refine j_bd_N (sn _ (q_ltN hK (j := j + 1) (by omega))) (fun z => ?_)
      have p1 := (sp _ z).2.1
      generalize j_sm K (j_one K V nm r) (j + 2) = x at *
      refine j_ex_N p1 (fun k1 => ?_)
      have j2 : x.2.1 + 1 ≤ N := q_ltN hK (by omega)
      refine j_bd_N (sn _ j2) (fun z1 => ?_)
      have p2 := (sp _ z1).2.1
      generalize j_sm K (j_one K V nm r) (x.2.1 + 1) = y at *
      refine j_ex_N p2 (fun k2 => ?_)
      have j3 : y.2.1 + 1 ≤ N := q_ltN hK (by omega)
      refine j_bd_N (sn _ j3) (fun z2 => ?_)
      have p3 := (sp _ z2).2.1
      generalize j_sm K (j_one K V nm r) (y.2.1 + 1) = u at *
      exact j_ex_N p3 (fun k3 => q_ltN hK (j := u.2.1) (by omega))
theorem j_ask_N (hN : N ≤ 300) (hK : ∀ j, N ≤ j → K j = 0) : ∀ (r j : Nat), j ≤ N → (j_ask K V nm r j).2.1 ≤ N := by
  have plain : ∀ (r j : Nat), K j ≠ 43 → j ≤ N → (j_ask K V nm r j).2.1 ≤ N := fun r j h hj => by
    have pg := j_one_pg (K := K) (V := V) (nm := nm) hN hK r
    have sp := (j_sm_pg hN hK pg).1
    have sn := fun i hi => j_sm_N hN hK pg (j_one_N hN hK r) i hi
    rw [j_ask_eq r j h]
    refine j_bd_N (sn _ hj) (fun z => ?_)
    have p1 := (sp _ z).2.1
    generalize j_sm K (j_one K V nm r) j = x at *
    try dsimp only
    by_cases c : 0 ≤ j_cp (K x.2.1)
    · rw [if_pos c]
      exact j_bd_N (sn _ (q_ltN hK (j := x.2.1) (j_cp_in c).2.2.1)) (fun z1 => (sp _ z1).2.1)
    · rw [if_neg c]; exact p1
  intro r
  induction r with
  | zero =>
    intro j hj
    by_cases h : K j = 43
    · have e1 : j_ask K V nm 0 j = (3, j, []) := if_pos h
      rw [e1]; exact hj
    · exact plain 0 j h hj
  | succ r ih =>
    intro j hj
    by_cases h : K j = 43
    · have e1 : j_ask K V nm (r + 1) j = j_bd (j_ask K V nm r (j + 1)) (fun j' D => (0, j', D ++ [(20, 0)])) := if_pos h
      rw [e1]
      have pg := j_ask_pg (K := K) (V := V) (nm := nm) hN hK r
      exact j_bd_N (ih _ (q_ltN hK (by omega))) (fun z => (pg _ z).2.1)
    · exact plain (r + 1) j h hj
end
section
variable {K V : Nat → Int} {nm : Int → Bool} {N : Nat}
theorem j_ei_pg {N : Nat} (hN : N ≤ 300) (hK : ∀ j, N ≤ j → K j = 0) : ∀ (m j : Nat) (ei bo : Bool) (C : List (Int × Int)), j ≤ N → C.length + zb ei + zb bo + 1 ≤ j → (j_ei K V nm m j ei bo C).2.1 ≤ N ∧ ((j_ei K V nm m j ei bo C).1 = 0 → (j_ei K V nm m j ei bo C).2.2.length + 1 ≤ (j_ei K V nm m j ei bo C).2.1)
  | 0, j, _, _, _, h, _ => ⟨h, fun z => (by cases z)⟩
  | m + 1, j, ei, bo, C, hj, hC => by
    have hl : ∀ i, K i ≠ 0 → i + 1 ≤ N := fun i q => by
      by_cases z : i < N
      · omega
      · exact absurd (hK i (by omega)) q
    have p := j_ask_pg (K := K) (V := V) (nm := nm) hN hK 8 j
    have pn := j_ask_N (K := K) (V := V) (nm := nm) hN hK 8 j hj
    have zi := zb_in ei
    have zo := zb_in bo
    unfold j_ei
    generalize j_ask K V nm 8 j = x at *
    by_cases z : x.1 = 0
    · have p' := p z
      rw [q_bd0 z]
      have lw : ((j_w bo (C ++ x.2.2)).length : Int) = C.length + x.2.2.length + zb bo := by
        cases bo
        · show ((C ++ x.2.2).length : Int) = C.length + x.2.2.length + 0; rw [List.length_append]; omega
        · show ((C ++ x.2.2 ++ [_]).length : Int) = C.length + x.2.2.length + 1; rw [List.length_append, List.length_append, List.length_singleton]; omega
      have lv : ∀ D : List (Int × Int), ((j_v ei D).length : Int) = D.length + zb ei := fun D => by
        cases ei
        · show (D.length : Int) = D.length + 0; omega
        · show ((D ++ [_]).length : Int) = D.length + 1; rw [List.length_append, List.length_singleton]; omega
      by_cases c1 : K x.2.1 = 42
      · have e1 : (if K x.2.1 = 42 then j_ei K V nm m (x.2.1 + 1) ei true (j_w bo (C ++ x.2.2)) else if K x.2.1 = 41 then j_ei K V nm m (x.2.1 + 1) true false (j_v ei (j_w bo (C ++ x.2.2))) else (0, x.2.1, j_v ei (j_w bo (C ++ x.2.2)))) = j_ei K V nm m (x.2.1 + 1) ei true (j_w bo (C ++ x.2.2)) := if_pos c1
        rw [e1]
        exact j_ei_pg hN hK m (x.2.1 + 1) ei true _ (hl _ (by omega)) (by rw [lw, zb_t]; omega)
      · by_cases c2 : K x.2.1 = 41
        · have e1 : (if K x.2.1 = 42 then j_ei K V nm m (x.2.1 + 1) ei true (j_w bo (C ++ x.2.2)) else if K x.2.1 = 41 then j_ei K V nm m (x.2.1 + 1) true false (j_v ei (j_w bo (C ++ x.2.2))) else (0, x.2.1, j_v ei (j_w bo (C ++ x.2.2)))) = j_ei K V nm m (x.2.1 + 1) true false (j_v ei (j_w bo (C ++ x.2.2))) := (if_neg c1).trans (if_pos c2)
          rw [e1]
          exact j_ei_pg hN hK m (x.2.1 + 1) true false _ (hl _ (by omega)) (by rw [lv, lw, zb_t, zb_f]; omega)
        · have e1 : (if K x.2.1 = 42 then j_ei K V nm m (x.2.1 + 1) ei true (j_w bo (C ++ x.2.2)) else if K x.2.1 = 41 then j_ei K V nm m (x.2.1 + 1) true false (j_v ei (j_w bo (C ++ x.2.2))) else (0, x.2.1, j_v ei (j_w bo (C ++ x.2.2)))) = (0, x.2.1, j_v ei (j_w bo (C ++ x.2.2))) := (if_neg c1).trans (if_neg c2)
          rw [e1]
          refine ⟨p'.2.1, fun _ => ?_⟩
          have a1 := lv (j_w bo (C ++ x.2.2))
          show (j_v ei (j_w bo (C ++ x.2.2))).length + 1 ≤ x.2.1
          omega
    · rw [q_bd1 z]
      exact ⟨pn, fun q => absurd q z⟩
theorem q_lawj {N : Nat} {e : Bool} (hN : N ≤ 300) (hK : ∀ j, N ≤ j → K j = 0) {j : Nat} (hj : 1 ≤ j ∧ j ≤ N) : (j_law K V nm e j).2.1 ≤ N := by
  cases e with
  | false => exact j_sm_N hN hK (j_one_pg (K := K) (V := V) (nm := nm) hN hK 8) (fun i hi => j_one_N (K := K) (V := V) (nm := nm) hN hK 8 i hi) j hj.2
  | true => exact (j_ei_pg (K := K) (V := V) (nm := nm) hN hK 300 j false false [] hj.2 (by show (0 : Int) + 0 + 0 + 1 ≤ j; omega)).1
theorem q_lawpg {N : Nat} {e : Bool} (hN : N ≤ 300) (hK : ∀ j, N ≤ j → K j = 0) {j : Nat} (hj : 1 ≤ j ∧ j ≤ N) (z : (j_law K V nm e j).1 = 0) : (j_law K V nm e j).2.1 ≤ N ∧ (j_law K V nm e j).2.2.length ≤ 299 := by
  refine ⟨q_lawj hN hK hj, ?_⟩
  cases e with
  | false =>
    have p := (j_sm_pg hN hK (j_one_pg (K := K) (V := V) (nm := nm) hN hK 8)).1 j z
    show (j_sm K (j_one K V nm 8) j).2.2.length ≤ 299
    omega
  | true =>
    have p := j_ei_pg (K := K) (V := V) (nm := nm) hN hK 300 j false false [] hj.2 (by show (0 : Int) + 0 + 0 + 1 ≤ j; omega)
    have p2 := p.2 z
    have p1 := p.1
    show (j_ei K V nm 300 j false false []).2.2.length ≤ 299
    omega
end

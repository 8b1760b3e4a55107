/-! THE PURE PART, 78: a law's parser, by descent and by pile -/
abbrev UR : Type := Int × Nat × List (Int × Int)
abbrev US : Type := List Int × Bool × Nat × List (Int × Int)
def j_bd (x : UR) (f : Nat → List (Int × Int) → UR) : UR := if x.1 = 0 then f x.2.1 x.2.2 else x
def j_lp (K : Nat → Int) (it : Nat → UR) (lo hi : Int) : Nat → Nat → List (Int × Int) → UR
  | 0, j, C => (0, j, C)
  | m + 1, j, C => if lo ≤ K j ∧ K j ≤ hi then j_bd (it (j + 1)) (fun j' D => j_lp K it lo hi m j' (C ++ D ++ [(K j + 1, 0)])) else (0, j, C)
def j_ch (K : Nat → Int) (it : Nat → UR) (lo hi : Int) (j : Nat) : UR := j_bd (it j) (fun j' D => j_lp K it lo hi 300 j' D)
def j_sm (K : Nat → Int) (it : Nat → UR) (j : Nat) : UR := j_ch K (j_ch K it 5 7) 3 4 j
def j_ex (K : Nat → Int) (k : Int) (j : Nat) (x : UR) : UR := if K j = k then x else (1, j, [])
def j_at (K V : Nat → Int) (nm : Int → Bool) (j : Nat) (x : UR) : UR := if K j = 2 then (if 9999 < V j then (2, j, []) else (0, j + 1, [(0, V j)])) else if 18 ≤ K j ∧ K j ≤ 27 then (if nm (K j - 18) = true then (0, j + 1, [(1, K j - 18)]) else (5, j, [])) else if K j = 12 ∨ K j = 4 ∨ K j = 44 then x else (1, j, [])
/-- one, with r more that may stand open -/
def j_one (K V : Nat → Int) (nm : Int → Bool) : Nat → Nat → UR
  | 0, j => j_at K V nm j (3, j, [])
  | r + 1, j => j_at K V nm j (if K j = 4 then j_bd (j_one K V nm r (j + 1)) (fun j' D => (0, j', D ++ [(3, 0)])) else if K j = 12 then j_bd (j_sm K (j_one K V nm r) (j + 1)) (fun j' D => j_ex K 13 j' (0, j' + 1, D)) else j_ex K 12 (j + 1) (j_bd (j_sm K (j_one K V nm r) (j + 2)) (fun j1 D1 => j_ex K 14 j1 (j_bd (j_sm K (j_one K V nm r) (j1 + 1)) (fun j2 D2 => j_ex K 14 j2 (j_bd (j_sm K (j_one K V nm r) (j2 + 1)) (fun j3 D3 => j_ex K 13 j3 (0, j3 + 1, D1 ++ D2 ++ D3 ++ [(2, 0)]))))))))
/-! the pile -/
def j_rk (o : Int) : Int := if 40 ≤ o then 0 else if o = 22 then 1 else if o = 21 then 2 else if o = 20 then 3 else if 10 ≤ o then 4 else if o = 3 then 7 else if 6 ≤ o then 6 else 5
def j_set (r : Int) : List Int → List (Int × Int) → List Int × List (Int × Int)
  | [], C => ([], C)
  | o :: P, C => if r ≤ j_rk o then j_set r P (C ++ [(o, 0)]) else (o :: P, C)
def j_op : List Int → Int
  | [] => -1
  | o :: P => if o < 40 then j_op P else o
def j_cm : List Int → Bool
  | [] => false
  | o :: P => if 4 < j_rk o then j_cm P else decide (j_rk o = 4)
def j_cn : List Int → Nat
  | [] => 0
  | o :: P => (if 40 ≤ o ∨ o = 3 ∨ o = 20 then 1 else 0) + j_cn P
def j_cp (k : Int) : Int := if k = 8 then 10 else if k = 16 then 11 else if k = 9 then 12 else if k = 17 then 13 else if k = 10 then 14 else if k = 11 then 15 else -1
def j_bt (e : Bool) (k : Int) (P : List Int) : Int := if k = 3 then 4 else if k = 4 then 5 else if k = 5 then 6 else if k = 6 then 7 else if k = 7 then 8 else if e = true ∧ j_op P = -1 then (if j_cm P = true then (if k = 42 then 21 else if k = 41 then 22 else -1) else j_cp k) else -1
def j_tp (P : List Int) : Int := match P with | [] => -1 | o :: _ => j_rk o
/-- a not may stand here -/
def j_ah (e : Bool) (P : List Int) : Bool := decide (e = true ∧ j_op P = -1 ∧ (P = [] ∨ (1 ≤ j_tp P ∧ j_tp P ≤ 3)))
def j_pu (o : Int) (P : List Int) (j j' : Nat) (C : List (Int × Int)) : US ⊕ UR := if j_cn P = 8 then .inr (3, j, []) else .inl (o :: P, false, j', C)
def j_be (e : Bool) (K : Nat → Int) (P : List Int) (j : Nat) (C : List (Int × Int)) : US ⊕ UR :=
  if 0 ≤ j_bt e (K j) P then .inl (j_bt e (K j) P :: (j_set (j_rk (j_bt e (K j) P)) P C).1, false, j + 1, (j_set (j_rk (j_bt e (K j) P)) P C).2)
  else if (j_op P = 40 ∨ j_op P = 43) ∧ K j = 13 then .inl ((j_set 7 (j_set 1 P C).1.tail (if j_op P = 43 then (j_set 1 P C).2 ++ [(2, 0)] else (j_set 1 P C).2)).1, true, j + 1, (j_set 7 (j_set 1 P C).1.tail (if j_op P = 43 then (j_set 1 P C).2 ++ [(2, 0)] else (j_set 1 P C).2)).2)
  else if (j_op P = 41 ∨ j_op P = 42) ∧ K j = 14 then .inl ((j_op P + 1) :: (j_set 1 P C).1.tail, false, j + 1, (j_set 1 P C).2)
  else if 0 ≤ j_op P ∨ (e = true ∧ j_cm P = false) then .inr (1, j, [])
  else .inr (0, j, (j_set 1 P C).2)
def j_bg (e : Bool) (K V : Nat → Int) (nm : Int → Bool) (P : List Int) (j : Nat) (C : List (Int × Int)) : US ⊕ UR :=
  if K j = 2 then (if 9999 < V j then .inr (2, j, []) else .inl ((j_set 7 P (C ++ [(0, V j)])).1, true, j + 1, (j_set 7 P (C ++ [(0, V j)])).2))
  else if 18 ≤ K j ∧ K j ≤ 27 then (if nm (K j - 18) = true then .inl ((j_set 7 P (C ++ [(1, K j - 18)])).1, true, j + 1, (j_set 7 P (C ++ [(1, K j - 18)])).2) else .inr (5, j, []))
  else if K j = 12 then j_pu 40 P j (j + 1) C
  else if K j = 4 then j_pu 3 P j (j + 1) C
  else if K j = 44 then (if j_cn P = 8 then .inr (3, j, []) else if K (j + 1) = 12 then .inl (41 :: P, false, j + 2, C) else .inr (1, j + 1, []))
  else if K j = 43 ∧ j_ah e P = true then j_pu 20 P j (j + 1) C
  else .inr (1, j, [])
def j_st (e : Bool) (K V : Nat → Int) (nm : Int → Bool) (S : US) : US ⊕ UR := cond S.2.1 (j_be e K S.1 S.2.2.1 S.2.2.2) (j_bg e K V nm S.1 S.2.2.1 S.2.2.2)
def j_go (e : Bool) (K V : Nat → Int) (nm : Int → Bool) : Nat → US → Option UR
  | 0, _ => none
  | n + 1, S => match j_st e K V nm S with
    | .inl S' => j_go e K V nm n S'
    | .inr x => some x
def j_to (e : Bool) (K V : Nat → Int) (nm : Int → Bool) (S S' : US) : Prop := ∃ k, ∀ n, j_go e K V nm (k + n) S = j_go e K V nm n S'
def j_no (e : Bool) (K V : Nat → Int) (nm : Int → Bool) (S : US) (x : UR) : Prop := ∃ k, ∀ n, j_go e K V nm (k + n) S = some x
def j_si (e : Bool) (K V : Nat → Int) (nm : Int → Bool) (S : US) (x : UR) (F : Nat → List (Int × Int) → US) : Prop := (x.1 = 0 → j_to e K V nm S (F x.2.1 x.2.2)) ∧ (x.1 ≠ 0 → j_no e K V nm S x)
section
variable {e : Bool} {K V : Nat → Int} {nm : Int → Bool}
theorem j_to_tr {S S' S'' : US} (h : j_to e K V nm S S') (h' : j_to e K V nm S' S'') : j_to e K V nm S S'' := by
  obtain ⟨k, h⟩ := h
  obtain ⟨k', h'⟩ := h'
  exact ⟨k + k', fun n => by rw [Nat.add_assoc, h, h']⟩
theorem j_to_no {S S' : US} {x : UR} (h : j_to e K V nm S S') (h' : j_no e K V nm S' x) : j_no e K V nm S x := by
  obtain ⟨k, h⟩ := h
  obtain ⟨k', h'⟩ := h'
  exact ⟨k + k', fun n => by rw [Nat.add_assoc, h, h']⟩
theorem j_to_rf (S : US) : j_to e K V nm S S := ⟨0, fun n => by rw [Nat.zero_add]⟩
theorem j_to_eq {S S' : US} (h : j_st e K V nm S = j_st e K V nm S') : j_to e K V nm S S' := ⟨0, fun n => by
  rw [Nat.zero_add]
  cases n with
  | zero => rfl
  | succ n => unfold j_go; rw [h]⟩
theorem j_to_st {S S' : US} (h : j_st e K V nm S = .inl S') : j_to e K V nm S S' := ⟨1, fun n => by
  rw [Nat.add_comm]
  show (match j_st e K V nm S with | .inl S' => j_go e K V nm n S' | .inr x => some x) = _
  rw [h]⟩
theorem j_no_st {S : US} {x : UR} (h : j_st e K V nm S = .inr x) : j_no e K V nm S x := ⟨1, fun n => by
  rw [Nat.add_comm]
  show (match j_st e K V nm S with | .inl S' => j_go e K V nm n S' | .inr x => some x) = _
  rw [h]⟩
theorem j_si_to {S S' : US} {x : UR} {F : Nat → List (Int × Int) → US} (h : j_to e K V nm S S') (h' : j_si e K V nm S' x F) : j_si e K V nm S x F := ⟨fun q => j_to_tr h (h'.1 q), fun q => j_to_no h (h'.2 q)⟩
theorem j_si_bd {S : US} {x : UR} {F F' : Nat → List (Int × Int) → US} {f : Nat → List (Int × Int) → UR} (h : j_si e K V nm S x F) (h' : x.1 = 0 → j_si e K V nm (F x.2.1 x.2.2) (f x.2.1 x.2.2) F') : j_si e K V nm S (j_bd x f) F' := by
  unfold j_bd
  by_cases c : x.1 = 0
  · rw [if_pos c]; exact j_si_to (h.1 c) (h' c)
  · rw [if_neg c]; exact ⟨fun q => absurd q c, fun _ => h.2 c⟩
theorem j_si_ok {S : US} {j : Nat} {C : List (Int × Int)} {F : Nat → List (Int × Int) → US} (h : j_to e K V nm S (F j C)) : j_si e K V nm S (0, j, C) F := ⟨fun _ => h, fun q => absurd rfl q⟩
theorem j_si_er {S : US} {x : UR} {F : Nat → List (Int × Int) → US} (hx : x.1 ≠ 0) (h : j_st e K V nm S = .inr x) : j_si e K V nm S x F := ⟨fun q => absurd q hx, fun _ => j_no_st h⟩
/-- how far a reader goes -/
def j_pg (N : Nat) (it : Nat → UR) : Prop := ∀ j, (it j).1 = 0 → j < (it j).2.1 ∧ (it j).2.1 ≤ N ∧ (it j).2.2.length + j ≤ (it j).2.1
theorem j_lp_pg {N : Nat} (hN : N ≤ 300) (hK : ∀ j, N ≤ j → K j = 0) {it : Nat → UR} (hi : j_pg N it) {lo hi' : Int} (hl : 1 ≤ lo) : ∀ (m j : Nat) (C : List (Int × Int)), j ≤ N → (j_lp K it lo hi' m j C).1 = 0 → j ≤ (j_lp K it lo hi' m j C).2.1 ∧ (j_lp K it lo hi' m j C).2.1 ≤ N ∧ (j_lp K it lo hi' m j C).2.2.length + j ≤ C.length + (j_lp K it lo hi' m j C).2.1 ∧ (301 ≤ m + j → ¬ (lo ≤ K (j_lp K it lo hi' m j C).2.1 ∧ K (j_lp K it lo hi' m j C).2.1 ≤ hi'))
  | 0, j, C, hj, _ => ⟨Nat.le_refl _, hj, Nat.le_refl _, fun q => by omega⟩
  | m + 1, j, C, hj, h => by
    unfold j_lp at h ⊢
    by_cases c : lo ≤ K j ∧ K j ≤ hi'
    · rw [if_pos c] at h ⊢
      have hjN : j < N := by
        by_cases q : j < N
        · exact q
        · have := hK j (by omega); omega
      unfold j_bd at h ⊢
      by_cases c2 : (it (j + 1)).1 = 0
      · rw [if_pos c2] at h ⊢
        dsimp only at h ⊢
        have p := hi (j + 1) c2
        have ih := j_lp_pg hN hK hi hl m (it (j + 1)).2.1 (C ++ (it (j + 1)).2.2 ++ [(K j + 1, 0)]) p.2.1 h
        rw [List.length_append, List.length_append, List.length_singleton] at ih
        refine ⟨by omega, ih.2.1, by omega, fun q => ih.2.2.2 (by omega)⟩
      · rw [if_neg c2] at h
        exact absurd h c2
    · rw [if_neg c] at h ⊢
      exact ⟨Nat.le_refl _, hj, Nat.le_refl _, fun _ => c⟩
theorem j_ch_pg {N : Nat} (hN : N ≤ 300) (hK : ∀ j, N ≤ j → K j = 0) {it : Nat → UR} (hi : j_pg N it) {lo hi' : Int} (hl : 1 ≤ lo) : j_pg N (j_ch K it lo hi') ∧ ∀ j, (j_ch K it lo hi' j).1 = 0 → ¬ (lo ≤ K (j_ch K it lo hi' j).2.1 ∧ K (j_ch K it lo hi' j).2.1 ≤ hi') := by
  have key : ∀ j, (j_ch K it lo hi' j).1 = 0 → (j < (j_ch K it lo hi' j).2.1 ∧ (j_ch K it lo hi' j).2.1 ≤ N ∧ (j_ch K it lo hi' j).2.2.length + j ≤ (j_ch K it lo hi' j).2.1) ∧ ¬ (lo ≤ K (j_ch K it lo hi' j).2.1 ∧ K (j_ch K it lo hi' j).2.1 ≤ hi') := by
    intro j h
    unfold j_ch j_bd at h ⊢
    by_cases c : (it j).1 = 0
    · rw [if_pos c] at h ⊢
      dsimp only at h ⊢
      have p := hi j c
      have q := j_lp_pg hN hK hi hl 300 (it j).2.1 (it j).2.2 p.2.1 h
      exact ⟨⟨by omega, q.2.1, by omega⟩, q.2.2.2 (by omega)⟩
    · rw [if_neg c] at h
      exact absurd h c
  exact ⟨fun j h => (key j h).1, fun j h => (key j h).2⟩
end

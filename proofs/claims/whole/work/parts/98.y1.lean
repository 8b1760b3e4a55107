/-! THE PURE PART, 100: what is read can run -/
def l_wf (al : Int → Bool) : List (Int × Int) → Int → Int → Int → Int → Prop
  | [], n, m, n', m' => n = n' ∧ m = m'
  | c :: C, n, m, n', m' => e_wo al c.1 c.2 n m ∧ l_wf al C (e_n c.1 n) (e_m c.1 m) n' m'
theorem l_wf_app {al : Int → Bool} {n1 m1 n2 m2 : Int} {D : List (Int × Int)} : ∀ (C : List (Int × Int)) (n m : Int), l_wf al C n m n1 m1 → l_wf al D n1 m1 n2 m2 → l_wf al (C ++ D) n m n2 m2
  | [], n, m, ⟨h1, h2⟩, h => by subst h1; subst h2; exact h
  | c :: C, n, m, ⟨h1, h2⟩, h => ⟨h1, l_wf_app C _ _ h2 h⟩
theorem l_wf_1 {al : Int → Bool} {o v n m n' m' : Int} (h : e_wo al o v n m) (h1 : e_n o n = n') (h2 : e_m o m = m') : l_wf al [(o, v)] n m n' m' := ⟨h, h1, h2⟩
theorem l_two {al : Int → Bool} {o n m : Int} (ho : 4 ≤ o ∧ o ≤ 8) (hn : 0 ≤ n) : l_wf al [(o, 0)] (n + 1 + 1) m (n + 1) m := by
  refine l_wf_1 (Or.inr (Or.inr (Or.inr (Or.inr (Or.inl ⟨by omega, by omega⟩))))) ?_ ?_
  · unfold e_n; rw [if_neg (by omega), if_neg (by omega), if_neg (by omega), if_pos (by omega)]; omega
  · unfold e_m; rw [if_pos (by omega)]
/-- one value more -/
def l_it (al : Int → Bool) (it : Nat → UR) (b : Int) : Prop := ∀ j, (it j).1 = 0 → ∀ n m, 0 ≤ n → 0 ≤ m → n + m + b ≤ 62 → l_wf al (it j).2.2 n m (n + 1) m
section
variable {K V : Nat → Int} {nm al : Int → Bool}
theorem l_lp {it : Nat → UR} {b : Int} (hi : l_it al it b) {lo hi' : Int} (hl : 3 ≤ lo ∧ hi' ≤ 7) {n0 m0 n m : Int} (hn : 0 ≤ n) (hm : 0 ≤ m) (hb : n + 1 + m + b ≤ 62) : ∀ (k j : Nat) (C : List (Int × Int)), l_wf al C n0 m0 (n + 1) m → (j_lp K it lo hi' k j C).1 = 0 → l_wf al (j_lp K it lo hi' k j C).2.2 n0 m0 (n + 1) m
  | 0, _, _, h, _ => h
  | k + 1, j, C, h, h0 => by
    unfold j_lp at h0 ⊢
    by_cases c : lo ≤ K j ∧ K j ≤ hi'
    · rw [if_pos c] at h0 ⊢
      obtain ⟨q1, q2⟩ := j_bd_0 h0
      rw [q2] at h0 ⊢
      exact l_lp hi hl hn hm hb k _ _ (l_wf_app _ _ _ (l_wf_app _ _ _ h (hi _ q1 (n + 1) m (by omega) hm (by omega))) (l_two (by omega) hn)) h0
    · rw [if_neg c]; exact h
theorem l_ch {it : Nat → UR} {b : Int} (hi : l_it al it b) {lo hi' : Int} (hl : 3 ≤ lo ∧ hi' ≤ 7) : l_it al (j_ch K it lo hi') (b + 1) := by
  intro j h0 n m hn hm hb
  unfold j_ch at h0 ⊢
  obtain ⟨q1, q2⟩ := j_bd_0 h0
  rw [q2] at h0 ⊢
  exact l_lp hi hl hn hm (by omega) 300 _ _ (hi _ q1 n m hn hm (by omega)) h0
theorem l_sm {it : Nat → UR} {b : Int} (hi : l_it al it b) : l_it al (j_sm K it) (b + 2) := by
  intro j h0 n m hn hm hb
  exact l_ch (l_ch hi (lo := 5) (hi' := 7) (by omega)) (lo := 3) (hi' := 4) (by omega) j h0 n m hn hm (by omega)
theorem l_at (hV : ∀ j, 0 ≤ V j) (hn : ∀ k, 0 ≤ k → k ≤ 9 → nm k = true → al k = true) {j : Nat} {x : UR} {n m : Int} (hb : n + m ≤ 62) (hx : x.1 = 0 → l_wf al x.2.2 n m (n + 1) m) (h : (j_at K V nm j x).1 = 0) : l_wf al (j_at K V nm j x).2.2 n m (n + 1) m := by
  unfold j_at at h ⊢
  by_cases c1 : K j = 2
  · rw [if_pos c1] at h ⊢
    by_cases c2 : 9999 < V j
    · rw [if_pos c2] at h; cases h
    · rw [if_neg c2]
      exact l_wf_1 (Or.inl ⟨rfl, hV j, by omega, hb⟩) (if_pos (by decide)) (if_pos (by decide))
  · rw [if_neg c1] at h ⊢
    by_cases c2 : 18 ≤ K j ∧ K j ≤ 27
    · rw [if_pos c2] at h ⊢
      by_cases c3 : nm (K j - 18) = true
      · rw [if_pos c3]
        exact l_wf_1 (Or.inr (Or.inl ⟨rfl, hn _ (by omega) (by omega) c3, by omega, by omega, hb⟩)) (if_pos (by decide)) (if_pos (by decide))
      · rw [if_neg c3] at h; cases h
    · rw [if_neg c2] at h ⊢
      by_cases c3 : K j = 12 ∨ K j = 4 ∨ K j = 44
      · rw [if_pos c3] at h ⊢; exact hx h
      · rw [if_neg c3] at h; cases h
theorem l_one (hV : ∀ j, 0 ≤ V j) (hn : ∀ k, 0 ≤ k → k ≤ 9 → nm k = true → al k = true) : ∀ r : Nat, l_it al (j_one K V nm r) (4 * r)
  | 0, j, h, n, m, h1, h2, hb => l_at hV hn (by omega) (fun q => by cases q) h
  | r + 1, j, h, n, m, h1, h2, hb => by
    have ih := l_one hV hn r
    have sm := l_sm (K := K) ih
    have sb : n + m + (4 * (r : Int) + 2) + 2 ≤ 62 := by omega
    refine l_at hV hn (by omega) (fun q => ?_) h
    by_cases c1 : K j = 4
    · rw [if_pos c1] at q ⊢
      obtain ⟨q1, q2⟩ := j_bd_0 q
      rw [q2]
      exact l_wf_app _ _ _ (ih _ q1 n m h1 h2 (by omega)) (l_wf_1 (Or.inr (Or.inr (Or.inr (Or.inl ⟨rfl, by omega⟩)))) rfl rfl)
    · rw [if_neg c1] at q ⊢
      by_cases c2 : K j = 12
      · rw [if_pos c2] at q ⊢
        obtain ⟨q1, q2⟩ := j_bd_0 q
        rw [q2] at q ⊢
        obtain ⟨q3, q4⟩ := j_ex_0 q
        rw [q4]
        exact sm _ q1 n m h1 h2 (by omega)
      · rw [if_neg c2] at q ⊢
        obtain ⟨_, q0⟩ := j_ex_0 q
        rw [q0] at q ⊢
        obtain ⟨q1, q2⟩ := j_bd_0 q
        rw [q2] at q ⊢
        have p1 := sm _ q1 n m h1 h2 (by omega)
        generalize j_sm K (j_one K V nm r) (j + 2) = x1 at *
        obtain ⟨_, q3⟩ := j_ex_0 q
        rw [q3] at q ⊢
        obtain ⟨q4, q5⟩ := j_bd_0 q
        rw [q5] at q ⊢
        have p2 := sm _ q4 (n + 1) m (by omega) h2 (by omega)
        generalize j_sm K (j_one K V nm r) (x1.2.1 + 1) = x2 at *
        obtain ⟨_, q6⟩ := j_ex_0 q
        rw [q6] at q ⊢
        obtain ⟨q7, q8⟩ := j_bd_0 q
        rw [q8] at q ⊢
        have p3 := sm _ q7 (n + 1 + 1) m (by omega) h2 (by omega)
        generalize j_sm K (j_one K V nm r) (x2.2.1 + 1) = x3 at *
        obtain ⟨q9, q10⟩ := j_ex_0 q
        rw [q10]
        refine l_wf_app _ _ _ (l_wf_app _ _ _ (l_wf_app _ _ _ p1 p2) p3) (l_wf_1 (Or.inr (Or.inr (Or.inl ⟨rfl, by omega⟩))) ?_ rfl)
        show n + 1 + 1 + 1 - 2 = n + 1
        omega
theorem l_cp {k m : Int} (h : 0 ≤ j_cp k) : l_wf al [(j_cp k, 0)] 2 m 0 (m + 1) := by
  have ci := j_cp_in h
  have o : j_cp k = 10 ∨ j_cp k = 11 ∨ j_cp k = 12 ∨ j_cp k = 13 ∨ j_cp k = 14 ∨ j_cp k = 15 := by omega
  generalize j_cp k = o' at *
  refine l_wf_1 (Or.inr (Or.inr (Or.inr (Or.inr (Or.inr (Or.inl ⟨o, rfl⟩)))))) ?_ ?_
  · unfold e_n; rw [if_neg (by omega), if_neg (by omega), if_neg (by omega), if_neg (by omega), if_pos (by omega)]; rfl
  · unfold e_m; rw [if_neg (by omega), if_pos (by omega)]
theorem l_ask (hV : ∀ j, 0 ≤ V j) (hn : ∀ k, 0 ≤ k → k ≤ 9 → nm k = true → al k = true) : ∀ (r j : Nat), r ≤ 8 → (j_ask K V nm r j).1 = 0 → ∀ m : Int, 0 ≤ m → m ≤ 2 → l_wf al (j_ask K V nm r j).2.2 0 m 0 (m + 1) := by
  have plain : ∀ (r j : Nat), r ≤ 8 → K j ≠ 43 → (j_ask K V nm r j).1 = 0 → ∀ m : Int, 0 ≤ m → m ≤ 2 → l_wf al (j_ask K V nm r j).2.2 0 m 0 (m + 1) := fun r j hr hk h0 m h1 h2 => by
    have sm := l_sm (K := K) (l_one (K := K) (V := V) hV hn r)
    rw [j_ask_eq r j hk] at h0 ⊢
    obtain ⟨q1, q2⟩ := j_bd_0 h0
    rw [q2] at h0 ⊢
    have p1 := sm _ q1 0 m (by omega) h1 (by omega)
    generalize j_sm K (j_one K V nm r) j = x at *
    by_cases c : 0 ≤ j_cp (K x.2.1)
    · have e1 : (if 0 ≤ j_cp (K x.2.1) then j_bd (j_sm K (j_one K V nm r) (x.2.1 + 1)) (fun j2 D2 => ((0 : Int), j2, x.2.2 ++ D2 ++ [(j_cp (K x.2.1), (0 : Int))])) else (1, x.2.1, [])) = j_bd (j_sm K (j_one K V nm r) (x.2.1 + 1)) (fun j2 D2 => (0, j2, x.2.2 ++ D2 ++ [(j_cp (K x.2.1), 0)])) := if_pos c
      rw [e1] at h0 ⊢
      obtain ⟨q3, q4⟩ := j_bd_0 h0
      rw [q4]
      exact l_wf_app _ _ _ (l_wf_app _ _ _ p1 (sm _ q3 (0 + 1) m (by omega) h1 (by omega))) (l_cp c)
    · have e1 : (if 0 ≤ j_cp (K x.2.1) then j_bd (j_sm K (j_one K V nm r) (x.2.1 + 1)) (fun j2 D2 => ((0 : Int), j2, x.2.2 ++ D2 ++ [(j_cp (K x.2.1), (0 : Int))])) else (1, x.2.1, [])) = (1, x.2.1, []) := if_neg c
      rw [e1] at h0
      cases h0
  intro r
  induction r with
  | zero =>
    intro j hr h0
    by_cases h : K j = 43
    · have e1 : j_ask K V nm 0 j = (3, j, []) := if_pos h
      rw [e1] at h0; cases h0
    · exact plain 0 j hr h h0
  | succ r ih =>
    intro j hr h0
    by_cases h : K j = 43
    · have e1 : j_ask K V nm (r + 1) j = j_bd (j_ask K V nm r (j + 1)) (fun j' D => (0, j', D ++ [(20, 0)])) := if_pos h
      rw [e1] at h0 ⊢
      obtain ⟨q1, q2⟩ := j_bd_0 h0
      rw [q2]
      intro m h1 h2
      exact l_wf_app _ _ _ (ih _ (by omega) q1 m h1 h2) (l_wf_1 (Or.inr (Or.inr (Or.inr (Or.inr (Or.inr (Or.inr (Or.inl ⟨rfl, rfl, by omega⟩))))))) rfl rfl)
    · exact plain (r + 1) j hr h h0
theorem l_w {bo : Bool} {C : List (Int × Int)} {z : Int} (hz : 0 ≤ z) (h : l_wf al C 0 0 0 (z + zb bo + 1)) : l_wf al (j_w bo C) 0 0 0 (z + 1) := by
  cases bo with
  | false => rw [zb_f, Int.add_zero] at h; exact h
  | true =>
    rw [zb_t] at h
    refine l_wf_app _ _ _ h (l_wf_1 (Or.inr (Or.inr (Or.inr (Or.inr (Or.inr (Or.inr (Or.inr ⟨Or.inl rfl, rfl, by omega⟩))))))) rfl ?_)
    show z + 1 + 1 - 1 = z + 1
    omega
theorem l_v {ei : Bool} {C : List (Int × Int)} (h : l_wf al C 0 0 0 (zb ei + 1)) : l_wf al (j_v ei C) 0 0 0 1 := by
  cases ei with
  | false => exact h
  | true => exact l_wf_app _ _ _ h (l_wf_1 (Or.inr (Or.inr (Or.inr (Or.inr (Or.inr (Or.inr (Or.inr ⟨Or.inr rfl, rfl, by decide⟩))))))) rfl rfl)
theorem l_ei (hV : ∀ j, 0 ≤ V j) (hn : ∀ k, 0 ≤ k → k ≤ 9 → nm k = true → al k = true) : ∀ (m j : Nat) (ei bo : Bool) (C : List (Int × Int)), l_wf al C 0 0 0 (zb ei + zb bo) → (j_ei K V nm m j ei bo C).1 = 0 → l_wf al (j_ei K V nm m j ei bo C).2.2 0 0 0 1
  | 0, j, _, _, _, _, h0 => by cases h0
  | m + 1, j, ei, bo, C, h, h0 => by
    unfold j_ei at h0 ⊢
    obtain ⟨q1, q2⟩ := j_bd_0 h0
    rw [q2] at h0 ⊢
    have zi := zb_in ei
    have zo := zb_in bo
    have p := l_ask hV hn 8 j (by omega) q1 (zb ei + zb bo) (by omega) (by omega)
    generalize j_ask K V nm 8 j = x at *
    have pw := l_w (by omega) (l_wf_app _ _ _ h p)
    by_cases c1 : K x.2.1 = 42
    · have e1 : (if K x.2.1 = 42 then j_ei K V nm m (x.2.1 + 1) ei true (j_w bo (C ++ x.2.2)) else if K x.2.1 = 41 then j_ei K V nm m (x.2.1 + 1) true false (j_v ei (j_w bo (C ++ x.2.2))) else (0, x.2.1, j_v ei (j_w bo (C ++ x.2.2)))) = j_ei K V nm m (x.2.1 + 1) ei true (j_w bo (C ++ x.2.2)) := if_pos c1
      rw [e1] at h0 ⊢
      exact l_ei hV hn m _ ei true _ pw h0
    · by_cases c2 : K x.2.1 = 41
      · have e1 : (if K x.2.1 = 42 then j_ei K V nm m (x.2.1 + 1) ei true (j_w bo (C ++ x.2.2)) else if K x.2.1 = 41 then j_ei K V nm m (x.2.1 + 1) true false (j_v ei (j_w bo (C ++ x.2.2))) else (0, x.2.1, j_v ei (j_w bo (C ++ x.2.2)))) = j_ei K V nm m (x.2.1 + 1) true false (j_v ei (j_w bo (C ++ x.2.2))) := (if_neg c1).trans (if_pos c2)
        rw [e1] at h0 ⊢
        exact l_ei hV hn m _ true false _ (l_v pw) h0
      · have e1 : (if K x.2.1 = 42 then j_ei K V nm m (x.2.1 + 1) ei true (j_w bo (C ++ x.2.2)) else if K x.2.1 = 41 then j_ei K V nm m (x.2.1 + 1) true false (j_v ei (j_w bo (C ++ x.2.2))) else (0, x.2.1, j_v ei (j_w bo (C ++ x.2.2)))) = (0, x.2.1, j_v ei (j_w bo (C ++ x.2.2))) := (if_neg c1).trans (if_neg c2)
        rw [e1]
        exact l_v pw
theorem l_law (hV : ∀ j, 0 ≤ V j) {q : Int} (hq : 0 ≤ q ∧ q ≤ 2) {j : Nat} (h0 : (j_law K V (j_nm q) (decide (q = 2)) j).1 = 0) : (q ≤ 1 → l_wf al_b (j_law K V (j_nm q) (decide (q = 2)) j).2.2 0 0 1 0) ∧ (q = 2 → l_wf al_h (j_law K V (j_nm q) (decide (q = 2)) j).2.2 0 0 0 1) := by
  refine ⟨fun a => ?_, fun a => ?_⟩
  · rw [decide_eq_false (show ¬ q = 2 by omega)] at h0 ⊢
    refine l_sm (K := K) (l_one (K := K) (V := V) (nm := j_nm q) (al := al_b) hV (fun k a b c => ?_) 8) j h0 0 0 (by omega) (by omega) (by omega)
    have c' := of_decide_eq_true c
    exact decide_eq_true (by omega)
  · subst a
    refine l_ei (K := K) (V := V) (nm := j_nm 2) (al := al_h) hV (fun k a b c => ?_) 300 j false false [] ⟨rfl, rfl⟩ h0
    have c' := of_decide_eq_true c
    exact decide_eq_true (by omega)
end

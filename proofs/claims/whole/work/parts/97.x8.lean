/-! THE PURE PART, 99: the model reads a clause -/
def n_w : List UC → Nat
  | [] => 0
  | c :: cs => c.2.2.length + n_w cs
def n_k (A : Int → Int) (t0 : Int) (k : Nat) (w : Int) (c : UC) : Prop := A (t0 + 1 + 4 * k) = c.1 ∧ c.2.1.length ≤ 3 ∧ (∀ i : Nat, i < c.2.1.length → A (t0 + 1 + 4 * k + 1 + i) = c.2.1.getD i 0) ∧ (c.1 ≤ 2 → A (t0 + 1 + 4 * k + 1) = w ∧ A (t0 + 1 + 4 * k + 2) = w + c.2.2.length ∧ ∀ i : Nat, i < c.2.2.length → A (t0 + 97 + 2 * (w + i)) = (c.2.2.getD i (0, 0)).1 ∧ A (t0 + 97 + 2 * (w + i) + 1) = (c.2.2.getD i (0, 0)).2)
def n_cl (A : Int → Int) (t0 : Int) : Nat → Int → List UC → Prop
  | _, _, [] => True
  | k, w, c :: cs => n_k A t0 k w c ∧ n_cl A t0 (k + 1) (w + c.2.2.length) cs
theorem n_w_app (c : UC) : ∀ cs : List UC, n_w (cs ++ [c]) = n_w cs + c.2.2.length
  | [] => by show c.2.2.length + 0 = 0 + c.2.2.length; omega
  | a :: cs => by
    show a.2.2.length + n_w (cs ++ [c]) = a.2.2.length + n_w cs + c.2.2.length
    rw [n_w_app c cs]; omega
theorem n_cl_app {A : Int → Int} {t0 : Int} {c : UC} : ∀ (cs : List UC) (k : Nat) (w : Int), n_cl A t0 k w cs → n_k A t0 (k + cs.length) (w + n_w cs) c → n_cl A t0 k w (cs ++ [c])
  | [], k, w, _, h => ⟨by
      have h' : n_k A t0 k (w + ((0 : Nat) : Int)) c := h
      rwa [show w + ((0 : Nat) : Int) = w by omega] at h', trivial⟩
  | a :: cs, k, w, ⟨h1, h2⟩, h => ⟨h1, n_cl_app cs (k + 1) _ h2 (by
      have h' : n_k A t0 (k + (cs.length + 1)) (w + ((a.2.2.length + n_w cs : Nat) : Int)) c := h
      rwa [show k + (cs.length + 1) = k + 1 + cs.length by omega, show w + ((a.2.2.length + n_w cs : Nat) : Int) = w + a.2.2.length + n_w cs by omega] at h')⟩
theorem n_k_fr {A A' : Int → Int} {t0 : Int} {c : UC} {k : Nat} {w : Int} (h : n_k A t0 k w c) (h1 : ∀ i, t0 + 1 + 4 * k ≤ i → i < t0 + 1 + 4 * k + 4 → A' i = A i) (h2 : ∀ i, t0 + 97 + 2 * w ≤ i → i < t0 + 97 + 2 * (w + c.2.2.length) → A' i = A i) : n_k A' t0 k w c := by
  obtain ⟨a1, a2, a3, a4⟩ := h
  refine ⟨by rw [h1 _ (by omega) (by omega)]; exact a1, a2, fun i q => by rw [h1 _ (by omega) (by omega)]; exact a3 i q, fun q => ?_⟩
  obtain ⟨b1, b2, b3⟩ := a4 q
  refine ⟨by rw [h1 _ (by omega) (by omega)]; exact b1, by rw [h1 _ (by omega) (by omega)]; exact b2, fun i z => ?_⟩
  rw [h2 _ (by omega) (by omega), h2 _ (by omega) (by omega)]; exact b3 i z
theorem n_cl_fr {A A' : Int → Int} {t0 : Int} : ∀ (cs : List UC) (k : Nat) (w : Int), n_cl A t0 k w cs → (∀ i, t0 + 1 + 4 * k ≤ i → i < t0 + 1 + 4 * (k + cs.length : Nat) → A' i = A i) → (∀ i, t0 + 97 + 2 * w ≤ i → i < t0 + 97 + 2 * (w + n_w cs) → A' i = A i) → n_cl A' t0 k w cs
  | [], _, _, _, _, _ => trivial
  | c :: cs, k, w, ⟨h1, h2⟩, g1, g2 => by
    have g1' : ∀ i, t0 + 1 + 4 * k ≤ i → i < t0 + 1 + 4 * ((k + (cs.length + 1) : Nat) : Int) → A' i = A i := g1
    have g2' : ∀ i, t0 + 97 + 2 * w ≤ i → i < t0 + 97 + 2 * (w + ((c.2.2.length + n_w cs : Nat) : Int)) → A' i = A i := g2
    exact ⟨n_k_fr h1 (fun i a b => g1' i a (by omega)) (fun i a b => g2' i a (by omega)), n_cl_fr cs (k + 1) _ h2 (fun i a b => g1' i (by omega) (by omega)) (fun i a b => g2' i (by omega) (by omega))⟩
/-- what the model keeps, whatever it reads into the slot at t0 -/
def n_Q (B : Int → Int) (L t0 : Int) (Gb : ZG) (j : Nat) (G : ZG) (w : Int) : Prop := y_mt (G 80) w B L (y_P B L j) ∧ (∀ i, i < t0 ∨ t0 + 705 ≤ i → G 83 i = Gb 83 i) ∧ (∀ k, (k = 4 ∨ k = 5 ∨ k = 6 ∨ 21 ≤ k) → G 80 k = Gb 80 k) ∧ ∀ r, r ≠ 80 → r ≠ 83 → r ≠ 85 → G r = Gb r
/-- the model between two clauses -/
def n_C (B : Int → Int) (L t0 : Int) (Gb : ZG) (N : Nat) (cs : List UC) (j : Nat) (G : ZG) (w : Int) : Prop := n_Q B L t0 Gb j G w ∧ (G 80 12 = t0 ∧ G 80 13 = n_w cs ∧ ∀ q : Nat, q < 3 → i_has (G 80 20) q = (j_fd q cs).isSome) ∧ G 83 t0 = cs.length ∧ n_cl (G 83) t0 0 0 cs ∧ cs.length ≤ 24 ∧ n_w cs ≤ j ∧ j ≤ N
theorem n_cd_lo {X : Int → Int} {c i : Int} {C : List (Int × Int)} (h : i < c) : n_cd X c C i = X i := if_neg (by omega)
theorem n_cd_hi {X : Int → Int} {c i : Int} {C : List (Int × Int)} (h : c + 2 * C.length ≤ i) : n_cd X c C i = X i := if_neg (by omega)
theorem n_cd_at {X : Int → Int} {c : Int} {C : List (Int × Int)} {i : Nat} (h : i < C.length) : n_cd X c C (c + 2 * i) = (C.getD i (0, 0)).1 ∧ n_cd X c C (c + 2 * i + 1) = (C.getD i (0, 0)).2 := by
  unfold n_cd
  rw [if_pos (by omega), if_pos (by omega), if_pos (by omega), if_neg (by omega), show ((c + 2 * (i : Int) - c) / 2).toNat = i by omega, show ((c + 2 * (i : Int) + 1 - c) / 2).toNat = i by omega]
  exact ⟨rfl, rfl⟩
section
variable {K V : Nat → Int} {nm : Int → Bool} {N : Nat}
theorem j_ei_pl {N : Nat} (hN : N ≤ 300) (hK : ∀ j, N ≤ j → K j = 0) {j0 : Nat} : ∀ (m j : Nat) (ei bo : Bool) (C : List (Int × Int)), C.length + zb ei + zb bo + j0 ≤ j → ((j_ei K V nm m j ei bo C).1 = 0 → (j_ei K V nm m j ei bo C).2.2.length + j0 ≤ (j_ei K V nm m j ei bo C).2.1)
  | 0, j, _, _, _, _ => fun z => (by cases z)
  | m + 1, j, ei, bo, C, hC => by
    have p := j_ask_pg (K := K) (V := V) (nm := nm) hN hK 8 j
    have zi := zb_in ei
    have zo := zb_in bo
    unfold j_ei
    generalize j_ask K V nm 8 j = x at *
    by_cases z : x.1 = 0
    · have p' := p z
      rw [q_bd0 z]
      have lw : ((j_w bo (C ++ x.2.2)).length : Int) = C.length + x.2.2.length + zb bo := by
        cases bo
        · show ((C ++ x.2.2).length : Int) = C.length + x.2.2.length + 0; rw [List.length_append]; omega
        · show ((C ++ x.2.2 ++ [_]).length : Int) = C.length + x.2.2.length + 1; rw [List.length_append, List.length_append, List.length_singleton]; omega
      have lv : ∀ D : List (Int × Int), ((j_v ei D).length : Int) = D.length + zb ei := fun D => by
        cases ei
        · show (D.length : Int) = D.length + 0; omega
        · show ((D ++ [_]).length : Int) = D.length + 1; rw [List.length_append, List.length_singleton]; omega
      by_cases c1 : K x.2.1 = 42
      · have e1 : (if K x.2.1 = 42 then j_ei K V nm m (x.2.1 + 1) ei true (j_w bo (C ++ x.2.2)) else if K x.2.1 = 41 then j_ei K V nm m (x.2.1 + 1) true false (j_v ei (j_w bo (C ++ x.2.2))) else (0, x.2.1, j_v ei (j_w bo (C ++ x.2.2)))) = j_ei K V nm m (x.2.1 + 1) ei true (j_w bo (C ++ x.2.2)) := if_pos c1
        rw [e1]
        exact j_ei_pl hN hK m (x.2.1 + 1) ei true _ (by rw [lw, zb_t]; omega)
      · by_cases c2 : K x.2.1 = 41
        · have e1 : (if K x.2.1 = 42 then j_ei K V nm m (x.2.1 + 1) ei true (j_w bo (C ++ x.2.2)) else if K x.2.1 = 41 then j_ei K V nm m (x.2.1 + 1) true false (j_v ei (j_w bo (C ++ x.2.2))) else (0, x.2.1, j_v ei (j_w bo (C ++ x.2.2)))) = j_ei K V nm m (x.2.1 + 1) true false (j_v ei (j_w bo (C ++ x.2.2))) := (if_neg c1).trans (if_pos c2)
          rw [e1]
          exact j_ei_pl hN hK m (x.2.1 + 1) true false _ (by rw [lv, lw, zb_t, zb_f]; omega)
        · have e1 : (if K x.2.1 = 42 then j_ei K V nm m (x.2.1 + 1) ei true (j_w bo (C ++ x.2.2)) else if K x.2.1 = 41 then j_ei K V nm m (x.2.1 + 1) true false (j_v ei (j_w bo (C ++ x.2.2))) else (0, x.2.1, j_v ei (j_w bo (C ++ x.2.2)))) = (0, x.2.1, j_v ei (j_w bo (C ++ x.2.2))) := (if_neg c1).trans (if_neg c2)
          rw [e1]
          intro _
          have a1 := lv (j_w bo (C ++ x.2.2))
          show (j_v ei (j_w bo (C ++ x.2.2))).length + j0 ≤ x.2.1
          omega
    · rw [q_bd1 z]
      exact fun q => absurd q z
theorem q_lawpl {N : Nat} {e : Bool} (hN : N ≤ 300) (hK : ∀ j, N ≤ j → K j = 0) (j : Nat) (z : (j_law K V nm e j).1 = 0) : (j_law K V nm e j).2.2.length + j ≤ (j_law K V nm e j).2.1 := by
  cases e with
  | false => exact ((j_sm_pg hN hK (j_one_pg (K := K) (V := V) (nm := nm) hN hK 8)).1 j z).2.2
  | true => exact j_ei_pl (K := K) (V := V) (nm := nm) hN hK 300 j false false [] (by show (0 : Int) + 0 + 0 + j ≤ j; omega) z
end
section
variable {T : ZT} {G Gb : ZG} {s : ZG × ZG} {B : Int → Int} {L t0 : Int} {N : Nat}
theorem n_Qnx {E : Nat} (hE : 2 ≤ E) (hB : y_tm Gb B L) {j : Nat} (h : n_Q B L t0 Gb j G (s.2 80 11)) : ∃ R' s', z_call E 80 [vr 80] (z_Y T G s) = some (vi (iI 0), z_Y T (z_up G 80 R') s') ∧ n_Q B L t0 Gb (j + 1) (z_up G 80 R') (s'.2 80 11) ∧ ∀ k, ¬ (7 ≤ k ∧ k ≤ 10) → R' k = G 80 k := by
  obtain ⟨d, rfl⟩ : ∃ d, E = d + 2 := ⟨E - 2, by omega⟩
  obtain ⟨m, r1, r2, r3⟩ := h
  have hB' : y_tm G B L := by
    unfold y_tm at hB ⊢
    rw [r2 4 (by omega), r3 84 (by omega) (by omega) (by omega)]; exact hB
  obtain ⟨R', s', e1, e2, e3⟩ := p_next d T G s hB' m
  refine ⟨R', s', e1, ⟨?_, fun i a => ?_, fun k a => ?_, fun r a b c => ?_⟩, e3⟩
  · rw [z_up_eq]; exact e2
  · rw [z_up_ne _ _ (by omega)]; exact r1 i a
  · rw [z_up_eq, e3 k (by omega)]; exact r2 k a
  · rw [z_up_ne _ _ a]; exact r3 r a b c
/-- what a clause's body reads -/
def j_bd2 (K V : Nat → Int) (q : Int) (j : Nat) : Int × Nat × UC := if q ≤ 2 then ((j_law K V (j_nm q) (decide (q = 2)) (j + 1)).1, (j_law K V (j_nm q) (decide (q = 2)) (j + 1)).2.1, (q, [], (j_law K V (j_nm q) (decide (q = 2)) (j + 1)).2.2)) else ((j_nums K V (j_fm q) j).1, (j_nums K V (j_fm q) j).2.1, (q, (j_nums K V (j_fm q) j).2.2, []))
theorem j_nums_len {K V : Nat → Int} : ∀ (l : List (Int × Int × Int)) (j : Nat), (j_nums K V l j).2.2.length ≤ l.length
  | [], _ => Nat.le_refl _
  | f :: l, j => by
    rw [j_nums_c]
    unfold j_tail
    have ih := j_nums_len (K := K) (V := V) l (j + 1 + 1)
    repeat' split
    · show (j_nums K V l (j + 1 + 1)).2.2.length + 1 ≤ l.length + 1; omega
    · exact Nat.zero_le _
    · exact Nat.zero_le _
    · exact Nat.zero_le _
theorem j_nums_N {K V : Nat → Int} (hK : ∀ j, N ≤ j → K j = 0) : ∀ (l : List (Int × Int × Int)) (j : Nat), (∀ f, f ∈ l → 1 ≤ f.1) → j ≤ N → (j_nums K V l j).2.1 ≤ N
  | [], _, _, h => h
  | f :: l, j, hf, h => by
    rw [j_nums_c]
    have f1 := hf f (List.mem_cons_self ..)
    by_cases c : K j = f.1
    · rw [if_pos c]
      have j1 : j + 1 ≤ N := q_ltN hK (j := j) (by omega)
      unfold j_tail
      by_cases c2 : K (j + 1) = 2
      · rw [if_pos c2]
        have j2 : j + 1 + 1 ≤ N := q_ltN hK (j := j + 1) (by omega)
        by_cases c3 : f.2.1 ≤ V (j + 1) ∧ V (j + 1) ≤ f.2.2
        · rw [if_pos c3]; exact j_nums_N hK l (j + 1 + 1) (fun g hg => hf g (List.mem_cons_of_mem _ hg)) j2
        · rw [if_neg c3]; exact j1
      · rw [if_neg c2]; exact j1
    · rw [if_neg c]; exact h
theorem j_nums_j {K V : Nat → Int} : ∀ (l : List (Int × Int × Int)) (j : Nat), (j_nums K V l j).1 = 0 → j ≤ (j_nums K V l j).2.1
  | [], _, _ => Nat.le_refl _
  | f :: l, j, h => by
    rw [j_nums_c] at h ⊢
    by_cases c : K j = f.1
    · rw [if_pos c] at h ⊢
      unfold j_tail at h ⊢
      by_cases c2 : K (j + 1) = 2
      · rw [if_pos c2] at h ⊢
        by_cases c3 : f.2.1 ≤ V (j + 1) ∧ V (j + 1) ≤ f.2.2
        · rw [if_pos c3] at h ⊢
          have := j_nums_j l (j + 1 + 1) h
          show j ≤ (j_nums K V l (j + 1 + 1)).2.1
          omega
        · rw [if_neg c3] at h; cases h
      · rw [if_neg c2] at h; cases h
    · rw [if_neg c] at h; cases h
theorem j_fm_1 {q : Int} (hq : 3 ≤ q ∧ q ≤ 12) : ∀ f, f ∈ j_fm q → 1 ≤ f.1 := by
  have a : ∀ n : Nat, n < 10 → ∀ f, f ∈ j_fm ((n + 3 : Nat) : Int) → 1 ≤ f.1 := by decide +kernel
  have := a (q - 3).toNat (by omega)
  rwa [show (((q - 3).toNat + 3 : Nat) : Int) = q by omega] at this
theorem p_bodyall {E : Nat} (hE : 12 ≤ E) (hB : y_tm Gb B L) (ht : 0 ≤ t0 ∧ t0 ≤ 2115) (hN : N ≤ 300) (hK : ∀ j, N ≤ j → n_K B L j = 0) {cs : List UC} {j : Nat} {q : Int} (hQ : n_Q B L t0 Gb (j + 1) G (s.2 80 11)) (h12 : G 80 12 = t0) (h13 : G 80 13 = n_w cs) (h14 : G 80 14 = q) (hc : G 83 t0 = cs.length) (hcl : n_cl (G 83) t0 0 0 cs) (hx : G 83 (t0 + 1 + 4 * (cs.length : Int)) = q) (h24 : cs.length < 24) (hwj : n_w cs ≤ j) (hjN : j + 1 ≤ N) (hq : 0 ≤ q ∧ q ≤ 12) (hk : n_K B L j = t_kind q) : (0 ≤ (j_bd2 (n_K B L) (n_V B L) q j).1 ∧ (j_bd2 (n_K B L) (n_V B L) q j).1 ≤ 6) ∧ (j_bd2 (n_K B L) (n_V B L) q j).2.1 ≤ N ∧ ∃ G' s', z_call E 109 [vr 80, vi (iI q), vi (iI (t0 + 1 + 4 * (cs.length : Int)))] (z_Y T G s) = some (vi (iI (j_bd2 (n_K B L) (n_V B L) q j).1), z_Y T G' s') ∧ n_Q B L t0 Gb (j_bd2 (n_K B L) (n_V B L) q j).2.1 G' (s'.2 80 11) ∧ ((j_bd2 (n_K B L) (n_V B L) q j).1 = 0 → G' 80 12 = t0 ∧ G' 80 13 = n_w (cs ++ [(j_bd2 (n_K B L) (n_V B L) q j).2.2]) ∧ G' 80 20 = G 80 20 ∧ G' 83 t0 = cs.length ∧ n_cl (G' 83) t0 0 0 (cs ++ [(j_bd2 (n_K B L) (n_V B L) q j).2.2]) ∧ n_w (cs ++ [(j_bd2 (n_K B L) (n_V B L) q j).2.2]) ≤ (j_bd2 (n_K B L) (n_V B L) q j).2.1) := by
  obtain ⟨d, rfl⟩ : ∃ d, E = d + 1 := ⟨E - 1, by omega⟩
  obtain ⟨m, q1, q2, q3⟩ := hQ
  have hB' : y_tm G B L := by
    unfold y_tm at hB ⊢
    rw [q2 4 (by omega), q3 84 (by omega) (by omega) (by omega)]; exact hB
  unfold j_bd2
  by_cases sl : q ≤ 2
  · rw [if_pos sl]
    -- a law: the row with where it begins
    have hB2 : y_tm (z_up G 83 (z_ro (G 83) (t0 + 1 + 4 * (cs.length : Int) + 1) (n_w cs))) B L := by
      unfold y_tm at hB' ⊢
      rw [z_up_ne _ _ (show 80 ≠ 83 by omega), z_up_ne _ _ (show 84 ≠ 83 by omega)]; exact hB'
    have pg := q_lawpg (K := n_K B L) (V := n_V B L) (nm := j_nm q) (e := decide (q = 2)) hN hK (j := j + 1) (by omega)
    have pl := q_lawpl (K := n_K B L) (V := n_V B L) (nm := j_nm q) (e := decide (q = 2)) hN hK (j + 1)
    have pj := q_lawj (K := n_K B L) (V := n_V B L) (nm := j_nm q) (e := decide (q = 2)) hN hK (j := j + 1) (by omega)
    have fin := p_parsed (T := T) (s := s) (G := z_up G 83 (z_ro (G 83) (t0 + 1 + 4 * (cs.length : Int) + 1) (n_w cs))) (E := d - 1) (by omega) (N := N) (t0 := t0) (w0 := n_w cs) (q := q) (e := decide (q = 2)) hB2 ht (by omega) (by omega) hN hK (j := j + 1) (by omega) (by omega) (by rw [z_up_ne _ _ (by omega)]; exact m) (by rw [z_up_ne _ _ (by omega)]; exact h12) (by rw [z_up_ne _ _ (by omega)]; exact h13) (by rw [z_up_ne _ _ (by omega)]; exact h14)
    obtain ⟨d', rfl⟩ : ∃ d', d = d' + 1 := ⟨d - 1, by omega⟩
    rw [show d' + 1 - 1 = d' by omega, z_up_eq] at fin
    generalize j_law (n_K B L) (n_V B L) (j_nm q) (decide (q = 2)) (j + 1) = x at *
    obtain ⟨bd, P', wh', C', G5, s5, e5, bw, hC, n5⟩ := fin
    obtain ⟨⟨m5, r5, ⟨r12, r13, r14⟩, ro⟩, -, r83, rr⟩ := n5
    generalize hX : t0 + 1 + 4 * (cs.length : Int) = X at *
    refine ⟨bd, pj, z_up G5 83 (z_ro (G5 83) (X + 2) (n_w cs + C'.length)), s5, ?_, ⟨?_, fun i a => ?_, fun k a => ?_, fun r a b c => ?_⟩, fun xz => ?_⟩
    · have e104 : z_call (d' + 1) 104 [vr 80, vi (iI X), vi (iI (zb (decide (q = 2))))] (z_Y T G s) = some (vi (iI x.1), z_Y T (z_up G5 83 (z_ro (G5 83) (X + 2) (n_w cs + C'.length))) s5) := by
        rw [e_M_lawClause]
        simp -implicitDefEqProofs (disch := first | assumption | omega | rfl | (simp only [z_up_eq, z_up_app, ↓reduceIte, Nat.reduceEqDiff]; omega)) only [z_lit0, z_lit1, z_lit2, z_litl, iI_add, iI_sub, iI_mul, iI_neg, iI_and, iI_or, iI_xor, iI_shl, iI_shr, iI_ushr, iI_div, iI_b, iI_c, iI_i2l, lI_l2i, lI_add, lI_sub, lI_mul, lI_neg, lI_div, lI_or, lI_and, lI_shl, lI_shr, nI_iI, lg_lt0, lg_gt0, lg_eq0, i_ne0', l_ne0', iI_lt, iI_le, iI_eq, lI_lt, lI_le, lI_eq, zb_0, zb_fit, zb_fit0, zb_fit1, i_one_zero, i_w_in, z_tb0, z_tb1, z_tb2, z_tb3, z_tb4, z_tb5, z_tb6, z_tb7, z_tb8, z_tbl, z_tu0, z_tu1, z_tu2, z_i_62, z_i_63, z_i_86, z_i_88, z_l_Y, z_ui_62, z_ui_63, z_ui_86, z_ui_88, z_ul_Y, z_sz_Y, z_sw_Y, iI_nat, z_ix_t, z_at, Int.add_zero, Int.sub_zero, Int.zero_add, Int.mul_zero, ne_eq, Bool.false_eq_true, Bool.true_eq_false, reduceCtorEq, eq_self, and_true, true_and, and_false, false_and, and_self, not_true_eq_false, not_false_eq_true, decide_true, decide_false, ↓reduceIte, Int.reduceEq, Int.reduceNe, Int.reduceLT, Int.reduceLE, Int.reduceAdd, Int.reduceSub, Int.reduceMul, Int.reduceNeg, Nat.reduceAdd, Nat.reduceEqDiff, Nat.reduceBEq, ↓z_x_eq, z_g_t, z_bI_s, z_bL_s, z_bR_s, z_bV_s, Int.cast_ofNat_Int, beq_self_eq_true, Bool.and_true, Bool.true_and, Bool.and_self, Bool.or_true, Bool.true_or, Bool.false_and, Bool.and_false, Bool.false_or, Bool.or_false, Bool.not_false, Bool.not_true, if_true, if_false, ite_true, ite_false, z_up_eq, z_up_app, z_ro_eq, h13, e5, r13]
      rw [e_M_body]
      rcases (show q = 0 ∨ q = 1 ∨ q = 2 by omega) with c | c | c
      · subst c
        rw [show zb (decide ((0 : Int) = 2)) = 0 from rfl] at e104
        simp -implicitDefEqProofs (disch := first | assumption | omega | rfl | (simp only [z_up_eq, z_up_app, ↓reduceIte, Nat.reduceEqDiff]; omega)) only [z_lit0, z_lit1, z_lit2, z_litl, iI_add, iI_sub, iI_mul, iI_neg, iI_and, iI_or, iI_xor, iI_shl, iI_shr, iI_ushr, iI_div, iI_b, iI_c, iI_i2l, lI_l2i, lI_add, lI_sub, lI_mul, lI_neg, lI_div, lI_or, lI_and, lI_shl, lI_shr, nI_iI, lg_lt0, lg_gt0, lg_eq0, i_ne0', l_ne0', iI_lt, iI_le, iI_eq, lI_lt, lI_le, lI_eq, zb_0, zb_fit, zb_fit0, zb_fit1, i_one_zero, i_w_in, z_tb0, z_tb1, z_tb2, z_tb3, z_tb4, z_tb5, z_tb6, z_tb7, z_tb8, z_tbl, z_tu0, z_tu1, z_tu2, z_i_62, z_i_63, z_i_86, z_i_88, z_l_Y, z_ui_62, z_ui_63, z_ui_86, z_ui_88, z_ul_Y, z_sz_Y, z_sw_Y, iI_nat, z_ix_t, z_at, Int.add_zero, Int.sub_zero, Int.zero_add, Int.mul_zero, ne_eq, Bool.false_eq_true, Bool.true_eq_false, reduceCtorEq, eq_self, and_true, true_and, and_false, false_and, and_self, not_true_eq_false, not_false_eq_true, decide_true, decide_false, ↓reduceIte, Int.reduceEq, Int.reduceNe, Int.reduceLT, Int.reduceLE, Int.reduceAdd, Int.reduceSub, Int.reduceMul, Int.reduceNeg, Nat.reduceAdd, Nat.reduceEqDiff, Nat.reduceBEq, ↓z_x_eq, z_g_t, z_bI_s, z_bL_s, z_bR_s, z_bV_s, Int.cast_ofNat_Int, beq_self_eq_true, Bool.and_true, Bool.true_and, Bool.and_self, Bool.or_true, Bool.true_or, Bool.false_and, Bool.and_false, Bool.false_or, Bool.or_false, Bool.not_false, Bool.not_true, if_true, if_false, ite_true, ite_false, z_up_eq, z_up_app, z_ro_eq, e104]
      · subst c
        rw [show zb (decide ((1 : Int) = 2)) = 0 from rfl] at e104
        simp -implicitDefEqProofs (disch := first | assumption | omega | rfl | (simp only [z_up_eq, z_up_app, ↓reduceIte, Nat.reduceEqDiff]; omega)) only [z_lit0, z_lit1, z_lit2, z_litl, iI_add, iI_sub, iI_mul, iI_neg, iI_and, iI_or, iI_xor, iI_shl, iI_shr, iI_ushr, iI_div, iI_b, iI_c, iI_i2l, lI_l2i, lI_add, lI_sub, lI_mul, lI_neg, lI_div, lI_or, lI_and, lI_shl, lI_shr, nI_iI, lg_lt0, lg_gt0, lg_eq0, i_ne0', l_ne0', iI_lt, iI_le, iI_eq, lI_lt, lI_le, lI_eq, zb_0, zb_fit, zb_fit0, zb_fit1, i_one_zero, i_w_in, z_tb0, z_tb1, z_tb2, z_tb3, z_tb4, z_tb5, z_tb6, z_tb7, z_tb8, z_tbl, z_tu0, z_tu1, z_tu2, z_i_62, z_i_63, z_i_86, z_i_88, z_l_Y, z_ui_62, z_ui_63, z_ui_86, z_ui_88, z_ul_Y, z_sz_Y, z_sw_Y, iI_nat, z_ix_t, z_at, Int.add_zero, Int.sub_zero, Int.zero_add, Int.mul_zero, ne_eq, Bool.false_eq_true, Bool.true_eq_false, reduceCtorEq, eq_self, and_true, true_and, and_false, false_and, and_self, not_true_eq_false, not_false_eq_true, decide_true, decide_false, ↓reduceIte, Int.reduceEq, Int.reduceNe, Int.reduceLT, Int.reduceLE, Int.reduceAdd, Int.reduceSub, Int.reduceMul, Int.reduceNeg, Nat.reduceAdd, Nat.reduceEqDiff, Nat.reduceBEq, ↓z_x_eq, z_g_t, z_bI_s, z_bL_s, z_bR_s, z_bV_s, Int.cast_ofNat_Int, beq_self_eq_true, Bool.and_true, Bool.true_and, Bool.and_self, Bool.or_true, Bool.true_or, Bool.false_and, Bool.and_false, Bool.false_or, Bool.or_false, Bool.not_false, Bool.not_true, if_true, if_false, ite_true, ite_false, z_up_eq, z_up_app, z_ro_eq, e104]
      · subst c
        rw [show zb (decide ((2 : Int) = 2)) = 1 from rfl] at e104
        simp -implicitDefEqProofs (disch := first | assumption | omega | rfl | (simp only [z_up_eq, z_up_app, ↓reduceIte, Nat.reduceEqDiff]; omega)) only [z_lit0, z_lit1, z_lit2, z_litl, iI_add, iI_sub, iI_mul, iI_neg, iI_and, iI_or, iI_xor, iI_shl, iI_shr, iI_ushr, iI_div, iI_b, iI_c, iI_i2l, lI_l2i, lI_add, lI_sub, lI_mul, lI_neg, lI_div, lI_or, lI_and, lI_shl, lI_shr, nI_iI, lg_lt0, lg_gt0, lg_eq0, i_ne0', l_ne0', iI_lt, iI_le, iI_eq, lI_lt, lI_le, lI_eq, zb_0, zb_fit, zb_fit0, zb_fit1, i_one_zero, i_w_in, z_tb0, z_tb1, z_tb2, z_tb3, z_tb4, z_tb5, z_tb6, z_tb7, z_tb8, z_tbl, z_tu0, z_tu1, z_tu2, z_i_62, z_i_63, z_i_86, z_i_88, z_l_Y, z_ui_62, z_ui_63, z_ui_86, z_ui_88, z_ul_Y, z_sz_Y, z_sw_Y, iI_nat, z_ix_t, z_at, Int.add_zero, Int.sub_zero, Int.zero_add, Int.mul_zero, ne_eq, Bool.false_eq_true, Bool.true_eq_false, reduceCtorEq, eq_self, and_true, true_and, and_false, false_and, and_self, not_true_eq_false, not_false_eq_true, decide_true, decide_false, ↓reduceIte, Int.reduceEq, Int.reduceNe, Int.reduceLT, Int.reduceLE, Int.reduceAdd, Int.reduceSub, Int.reduceMul, Int.reduceNeg, Nat.reduceAdd, Nat.reduceEqDiff, Nat.reduceBEq, ↓z_x_eq, z_g_t, z_bI_s, z_bL_s, z_bR_s, z_bV_s, Int.cast_ofNat_Int, beq_self_eq_true, Bool.and_true, Bool.true_and, Bool.and_self, Bool.or_true, Bool.true_or, Bool.false_and, Bool.and_false, Bool.false_or, Bool.or_false, Bool.not_false, Bool.not_true, if_true, if_false, ite_true, ite_false, z_up_eq, z_up_app, z_ro_eq, e104]
    · rw [z_up_ne _ _ (by omega)]; exact m5
    · rw [z_up_eq, z_ro_ne _ _ (by omega), r83]
      by_cases a2 : i < t0
      · rw [n_cd_lo (by omega), z_ro_ne _ _ (by omega)]; exact q1 i (Or.inl a2)
      · rw [n_cd_hi (by omega), z_ro_ne _ _ (by omega)]; exact q1 i (by omega)
    · rw [z_up_ne _ _ (by omega), ro k (by omega), z_up_ne _ _ (by omega)]; exact q2 k a
    · rw [z_up_ne _ _ b, rr r a b c, z_up_ne _ _ b]; exact q3 r a b c
    · have eC := hC xz
      have pgx := pg xz
      subst eC
      have nw : n_w (cs ++ [(q, ([] : List Int), x.2.2)]) = n_w cs + x.2.2.length := n_w_app _ _
      refine ⟨by rw [z_up_ne _ _ (by omega)]; exact r12, ?_, ?_, ?_, ?_, ?_⟩
      · rw [z_up_ne _ _ (by omega), r13, nw]; omega
      · rw [z_up_ne _ _ (by omega), ro 20 (by omega), z_up_ne _ _ (by omega)]
      · rw [z_up_eq, z_ro_ne _ _ (by omega), r83, n_cd_lo (by omega), z_ro_ne _ _ (by omega)]; exact hc
      · rw [z_up_eq, r83]
        have fr : ∀ i, i < t0 + 97 + 2 * (n_w cs : Int) → i ≠ X + 2 → i ≠ X + 1 → z_ro (n_cd (z_ro (G 83) (X + 1) (n_w cs)) (t0 + 97 + 2 * (n_w cs : Int)) x.2.2) (X + 2) (n_w cs + x.2.2.length) i = G 83 i := fun i a b c => by rw [z_ro_ne _ _ b, n_cd_lo a, z_ro_ne _ _ c]
        refine n_cl_app cs 0 0 (n_cl_fr cs 0 0 hcl (fun i a b => fr i (by omega) (by omega) (by omega)) (fun i a b => fr i (by omega) (by omega) (by omega))) ?_
        rw [show 0 + cs.length = cs.length by omega, show (0 : Int) + (n_w cs : Int) = n_w cs by omega]
        refine ⟨?_, by show 0 ≤ 3; omega, fun i a => absurd a (Nat.not_lt_zero _), fun _ => ⟨?_, ?_, fun i a => ?_⟩⟩
        · rw [hX, fr X (by omega) (by omega) (by omega)]; exact hx
        · rw [hX, z_ro_ne _ _ (by omega), n_cd_lo (by omega), z_ro_eq]
        · rw [hX, z_ro_eq]
        · have a' : i < x.2.2.length := a
          have at' := n_cd_at (X := z_ro (G 83) (X + 1) (n_w cs)) (c := t0 + 97 + 2 * (n_w cs : Int)) (C := x.2.2) (i := i) a'
          rw [show t0 + 97 + 2 * ((n_w cs : Int) + i) = t0 + 97 + 2 * (n_w cs : Int) + 2 * i by omega, z_ro_ne _ _ (by omega), z_ro_ne _ _ (by omega)]
          exact at'
      · have plx := pl xz
        show n_w (cs ++ [(q, ([] : List Int), x.2.2)]) ≤ x.2.1
        rw [nw]
        omega
  · rw [if_neg sl]
    have ms : m_st B L (G 80) G (G 83) (j + 1) G (s.2 80 11) := ⟨m, fun _ _ => rfl, rfl, fun _ _ _ => rfl⟩
    have bn := p_bodyn (T := T) (s := s) (E := d + 1) (by omega) hB' hB'.2.1 (A := G 83) ms (e := t0 + 1 + 4 * (cs.length : Int) + 4) (x := t0 + 1 + 4 * (cs.length : Int)) (q := q) (by omega) hk (by omega) (by omega)
    have ln := j_nums_len (K := n_K B L) (V := n_V B L) (j_fm q) j
    have lf : (j_fm q).length ≤ 3 := by
      have a : ∀ n : Nat, n < 10 → (j_fm ((n + 3 : Nat) : Int)).length ≤ 3 := by decide +kernel
      have := a (q - 3).toNat (by omega)
      rwa [show (((q - 3).toNat + 3 : Nat) : Int) = q by omega] at this
    have nN := j_nums_N (V := n_V B L) (N := N) hK (j_fm q) j (j_fm_1 (by omega)) (by omega)
    have njj := j_nums_j (K := n_K B L) (V := n_V B L) (j_fm q) j
    generalize j_nums (n_K B L) (n_V B L) (j_fm q) j = y at *
    generalize hX : t0 + 1 + 4 * (cs.length : Int) = X at *
    by_cases yz : y.1 = 0
    · obtain ⟨A', G', s', e1, ⟨m1, r1, r2, r3⟩, o1, v1⟩ := bn.1 yz
      refine ⟨by rw [yz]; exact ⟨by decide, by decide⟩, nN, G', s', by rw [yz]; exact e1, ⟨m1, fun i a => ?_, fun k a => ?_, fun r a b c => ?_⟩, fun _ => ⟨by rw [r1 12 (by omega)]; exact h12, ?_, by rw [r1 20 (by omega)], ?_, ?_, ?_⟩⟩
      · rw [r2, o1 i (by omega)]; exact q1 i a
      · rw [r1 k (by omega)]; exact q2 k a
      · rw [r3 r a b]; exact q3 r a b c
      · rw [r1 13 (by omega), h13, n_w_app]; rfl
      · rw [r2, o1 t0 (by omega)]; exact hc
      · rw [r2]
        refine n_cl_app cs 0 0 (n_cl_fr cs 0 0 hcl (fun i a b => o1 i (by omega)) (fun i a b => o1 i (by omega))) ?_
        rw [show 0 + cs.length = cs.length by omega]
        refine ⟨?_, by show y.2.2.length ≤ 3; omega, fun i a => ?_, fun z => absurd z sl⟩
        · rw [hX, o1 X (by omega)]; exact hx
        · rw [hX]; exact v1 i a
      · rw [n_w_app]
        show n_w cs + 0 ≤ y.2.1
        have := njj yz
        omega
    · obtain ⟨bd, A', G', s', e1, ⟨m1, r1, r2, r3⟩, o1⟩ := bn.2 yz
      refine ⟨bd, nN, G', s', e1, ⟨m1, fun i a => ?_, fun k a => ?_, fun r a b c => ?_⟩, fun z => absurd z yz⟩
      · rw [r2, o1 i (by omega)]; exact q1 i a
      · rw [r1 k (by omega)]; exact q2 k a
      · rw [r3 r a b]; exact q3 r a b c
end

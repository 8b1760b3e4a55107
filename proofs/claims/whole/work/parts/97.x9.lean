/-! THE PURE PART, 99b: the model reads a clause -/
section
variable {T : ZT} {G Gb : ZG} {s : ZG × ZG} {B : Int → Int} {L t0 : Int} {N : Nat}
theorem n_Q_80 {j : Nat} {w : Int} (h : n_Q B L t0 Gb j G w) {k v : Int} (hk : 11 ≤ k ∧ k ≤ 20) : n_Q B L t0 Gb j (z_up G 80 (z_ro (G 80) k v)) w := by
  obtain ⟨m, q1, q2, q3⟩ := h
  refine ⟨?_, fun i a => ?_, fun k' a => ?_, fun r a b c => ?_⟩
  · rw [z_up_eq]
    unfold y_mt at m ⊢
    rw [z_ro_ne _ _ (by omega), z_ro_ne _ _ (by omega), z_ro_ne _ _ (by omega), z_ro_ne _ _ (by omega)]; exact m
  · rw [z_up_ne _ _ (by omega)]; exact q1 i a
  · rw [z_up_eq, z_ro_ne _ _ (by omega)]; exact q2 k' a
  · rw [z_up_ne _ _ a]; exact q3 r a b c
theorem n_Q_83 {j : Nat} {w : Int} (h : n_Q B L t0 Gb j G w) {i v : Int} (hi : t0 ≤ i ∧ i < t0 + 705) : n_Q B L t0 Gb j (z_up G 83 (z_ro (G 83) i v)) w := by
  obtain ⟨m, q1, q2, q3⟩ := h
  refine ⟨?_, fun i' a => ?_, fun k' a => ?_, fun r a b c => ?_⟩
  · rw [z_up_ne _ _ (by omega)]; exact m
  · rw [z_up_eq, z_ro_ne _ _ (by omega)]; exact q1 i' a
  · rw [z_up_ne _ _ (by omega)]; exact q2 k' a
  · rw [z_up_ne _ _ b]; exact q3 r a b c
theorem n_Q_rl (hB : y_tm Gb B L) {j : Nat} {w : Int} (h : n_Q B L t0 Gb j G w) : y_rl (n_K B L j) (n_V B L j) (G 80 9) (G 80 10) w := by
  have pj := y_P_in (B := B) hB.1.1 j
  exact y_rel h.1 ⟨pj.1, pj.2.1⟩ hB.2.2.2
theorem p_mcl65 {E : Nat} (hE : 13 ≤ E) (hB : y_tm Gb B L) (ht : 0 ≤ t0 ∧ t0 ≤ 2115) (hN : N ≤ 300) (hK : ∀ j, N ≤ j → n_K B L j = 0) {cs : List UC} {j : Nat} {q : Int} (hQ : n_Q B L t0 Gb j G (s.2 80 11)) (h12 : G 80 12 = t0) (h13 : G 80 13 = n_w cs) (hc : G 83 t0 = cs.length) (hcl : n_cl (G 83) t0 0 0 cs) (h24 : cs.length < 24) (hwj : n_w cs ≤ j) (hjN : j + 1 ≤ N) (hq : 0 ≤ q ∧ q ≤ 12) (hk : n_K B L j = t_kind q) {y : Int × Nat × UC} (hy : y = j_sc (n_K B L) (j_bd2 (n_K B L) (n_V B L) q j).1 (j_bd2 (n_K B L) (n_V B L) q j).2.1 (j_bd2 (n_K B L) (n_V B L) q j).2.2) : (y.1 = 0 → ∃ G' s', z_w d_M_clause (z_call E) 65 [some (vr 80), some (vi (iI q)), some (vi (iI (cs.length : Int))), none, none] [] (z_Y T G s) = some (vi (iI 0), z_Y T G' s') ∧ n_Q B L t0 Gb y.2.1 G' (s'.2 80 11) ∧ (G' 80 12 = t0 ∧ G' 80 13 = n_w (cs ++ [y.2.2]) ∧ G' 80 20 = G 80 20) ∧ G' 83 t0 = (cs.length : Int) + 1 ∧ n_cl (G' 83) t0 0 0 (cs ++ [y.2.2]) ∧ n_w (cs ++ [y.2.2]) ≤ y.2.1 ∧ y.2.1 ≤ N) ∧ (y.1 ≠ 0 → (0 ≤ y.1 ∧ y.1 ≤ 6) ∧ y.2.1 ≤ N ∧ ∃ G' s', z_w d_M_clause (z_call E) 65 [some (vr 80), some (vi (iI q)), some (vi (iI (cs.length : Int))), none, none] [] (z_Y T G s) = some (vi (iI y.1), z_Y T G' s') ∧ n_Q B L t0 Gb y.2.1 G' (s'.2 80 11)) := by
  have Q1 := n_Q_80 hQ (k := 14) (v := q) (by omega)
  obtain ⟨R2, s2, e2, Q2, k2⟩ := n_Qnx (T := T) (s := s) (E := E) (by omega) hB Q1
  rw [z_up_up] at e2 Q2
  rw [z_up_eq] at k2
  generalize hX : t0 + 1 + 4 * (cs.length : Int) = X at *
  have Q3 := n_Q_83 Q2 (i := X) (v := q) (by omega)
  have g83 : z_up G 80 R2 83 = G 83 := z_up_ne _ _ (by omega)
  rw [g83] at Q3
  have r12 : R2 12 = t0 := by rw [k2 12 (by omega), z_ro_ne _ _ (by omega)]; exact h12
  have r13 : R2 13 = n_w cs := by rw [k2 13 (by omega), z_ro_ne _ _ (by omega)]; exact h13
  have r14 : R2 14 = q := by rw [k2 14 (by omega), z_ro_eq]
  have r20 : R2 20 = G 80 20 := by rw [k2 20 (by omega), z_ro_ne _ _ (by omega)]
  have u80 : z_up (z_up G 80 R2) 83 (z_ro (G 83) X q) 80 = R2 := by rw [z_up_ne _ _ (by omega), z_up_eq]
  have u83 : z_up (z_up G 80 R2) 83 (z_ro (G 83) X q) 83 = z_ro (G 83) X q := z_up_eq _ _ _
  have ba := p_bodyall (T := T) (s := s2) (G := z_up (z_up G 80 R2) 83 (z_ro (G 83) X q)) (E := E) (by omega) hB ht hN hK (cs := cs) (j := j) (q := q) Q3 (by rw [u80]; exact r12) (by rw [u80]; exact r13) (by rw [u80]; exact r14) (by rw [u83, z_ro_ne _ _ (by omega)]; exact hc) (by rw [u83]; exact n_cl_fr cs 0 0 hcl (fun i a b => z_ro_ne _ _ (by omega)) (fun i a b => z_ro_ne _ _ (by omega))) (by rw [u83, hX, z_ro_eq]) h24 hwj hjN hq hk
  rw [hX, u80] at ba
  generalize j_bd2 (n_K B L) (n_V B L) q j = b at *
  obtain ⟨bd, bN, G5, s5, e5, Q5, f5⟩ := ba
  have x12 : i_in t0 ∧ i_in X := by constructor <;> constructor <;> omega
  have hc' : (cs.length : Int) < 24 := by omega
  subst hy
  unfold j_sc
  by_cases bz : b.1 = 0
  · rw [if_pos bz]
    obtain ⟨f12, f13, f20, f83, fcl, fw⟩ := f5 bz
    rw [bz] at e5
    have Q6 := n_Q_83 Q5 (i := t0) (v := (cs.length : Int) + 1) (by omega)
    have rl := n_Q_rl hB Q6
    have tk := n_tok rl
    have v80 : z_up G5 83 (z_ro (G5 83) t0 ((cs.length : Int) + 1)) 80 = G5 80 := z_up_ne _ _ (by omega)
    rw [v80] at tk
    have t59 := tk.2.2.2.2.2.2.2.2.2.2.2.2.2.2.2.2.1
    have tb := tk.1
    have lw : ∀ c : UC, (cs ++ [c]).length = cs.length + 1 := fun c => by rw [List.length_append, List.length_singleton]
    by_cases k15 : n_K B L b.2.1 = 15
    · rw [if_pos k15]
      refine ⟨fun _ => ?_, fun z => absurd rfl z⟩
      have k15' : (n_K B L b.2.1 = 15) = True := eq_true k15
      rw [k15'] at t59
      obtain ⟨R7, s7, e7, Q7, k7⟩ := n_Qnx (T := T) (s := s5) (E := E) (by omega) hB Q6
      have j1 : b.2.1 + 1 ≤ N := q_ltN (K := n_K B L) hK (by omega)
      refine ⟨_, s7, ?_, Q7, ⟨?_, ?_, ?_⟩, ?_, ?_, ?_, j1⟩
      · rw [e_M_clause_65]
        simp -implicitDefEqProofs (disch := first | assumption | omega | rfl | (simp only [z_up_eq, z_up_app, ↓reduceIte, Nat.reduceEqDiff]; omega)) only [z_lit0, z_lit1, z_lit2, z_litl, iI_add, iI_sub, iI_mul, iI_neg, iI_and, iI_or, iI_xor, iI_shl, iI_shr, iI_ushr, iI_div, iI_b, iI_c, iI_i2l, lI_l2i, lI_add, lI_sub, lI_mul, lI_neg, lI_div, lI_or, lI_and, lI_shl, lI_shr, nI_iI, lg_lt0, lg_gt0, lg_eq0, i_ne0', l_ne0', iI_lt, iI_le, iI_eq, lI_lt, lI_le, lI_eq, zb_0, zb_fit, zb_fit0, zb_fit1, i_one_zero, i_w_in, z_tb0, z_tb1, z_tb2, z_tb3, z_tb4, z_tb5, z_tb6, z_tb7, z_tb8, z_tbl, z_tu0, z_tu1, z_tu2, z_i_62, z_i_63, z_i_86, z_i_88, z_l_Y, z_ui_62, z_ui_63, z_ui_86, z_ui_88, z_ul_Y, z_sz_Y, z_sw_Y, iI_nat, z_ix_t, z_at, Int.add_zero, Int.sub_zero, Int.zero_add, Int.mul_zero, ne_eq, Bool.false_eq_true, Bool.true_eq_false, reduceCtorEq, eq_self, and_true, true_and, and_false, false_and, and_self, not_true_eq_false, not_false_eq_true, decide_true, decide_false, ↓reduceIte, Int.reduceEq, Int.reduceNe, Int.reduceLT, Int.reduceLE, Int.reduceAdd, Int.reduceSub, Int.reduceMul, Int.reduceNeg, Nat.reduceAdd, Nat.reduceEqDiff, Nat.reduceBEq, ↓z_x_eq, z_g_t, z_bI_s, z_bL_s, z_bR_s, z_bV_s, Int.cast_ofNat_Int, beq_self_eq_true, Bool.and_true, Bool.true_and, Bool.and_self, Bool.or_true, Bool.true_or, Bool.false_and, Bool.and_false, Bool.false_or, Bool.or_false, Bool.not_false, Bool.not_true, if_true, if_false, ite_true, ite_false, z_up_eq, z_up_app, z_ro_eq, e2, r12, hX, e5, f12, f83, t59, e7]
      · rw [z_up_eq, k7 12 (by omega), v80]; exact f12
      · rw [z_up_eq, k7 13 (by omega), v80]; exact f13
      · rw [z_up_eq, k7 20 (by omega), v80, f20]; exact r20
      · rw [z_up_ne _ _ (by omega), z_up_eq, z_ro_eq]
      · rw [z_up_ne _ _ (by omega), z_up_eq]
        exact n_cl_fr _ 0 0 fcl (fun i a c => z_ro_ne _ _ (by omega)) (fun i a c => z_ro_ne _ _ (by omega))
      · show n_w (cs ++ [b.2.2]) ≤ b.2.1 + 1
        omega
    · rw [if_neg k15]
      refine ⟨fun z => (by cases z), fun _ => ⟨⟨by show (0 : Int) ≤ 1; decide, by show (1 : Int) ≤ 6; decide⟩, bN, _, s5, ?_, Q6⟩⟩
      have k15' : (n_K B L b.2.1 = 15) = False := eq_false k15
      rw [k15'] at t59
      rw [e_M_clause_65]
      simp -implicitDefEqProofs (disch := first | assumption | omega | rfl | (simp only [z_up_eq, z_up_app, ↓reduceIte, Nat.reduceEqDiff]; omega)) only [z_lit0, z_lit1, z_lit2, z_litl, iI_add, iI_sub, iI_mul, iI_neg, iI_and, iI_or, iI_xor, iI_shl, iI_shr, iI_ushr, iI_div, iI_b, iI_c, iI_i2l, lI_l2i, lI_add, lI_sub, lI_mul, lI_neg, lI_div, lI_or, lI_and, lI_shl, lI_shr, nI_iI, lg_lt0, lg_gt0, lg_eq0, i_ne0', l_ne0', iI_lt, iI_le, iI_eq, lI_lt, lI_le, lI_eq, zb_0, zb_fit, zb_fit0, zb_fit1, i_one_zero, i_w_in, z_tb0, z_tb1, z_tb2, z_tb3, z_tb4, z_tb5, z_tb6, z_tb7, z_tb8, z_tbl, z_tu0, z_tu1, z_tu2, z_i_62, z_i_63, z_i_86, z_i_88, z_l_Y, z_ui_62, z_ui_63, z_ui_86, z_ui_88, z_ul_Y, z_sz_Y, z_sw_Y, iI_nat, z_ix_t, z_at, Int.add_zero, Int.sub_zero, Int.zero_add, Int.mul_zero, ne_eq, Bool.false_eq_true, Bool.true_eq_false, reduceCtorEq, eq_self, and_true, true_and, and_false, false_and, and_self, not_true_eq_false, not_false_eq_true, decide_true, decide_false, ↓reduceIte, Int.reduceEq, Int.reduceNe, Int.reduceLT, Int.reduceLE, Int.reduceAdd, Int.reduceSub, Int.reduceMul, Int.reduceNeg, Nat.reduceAdd, Nat.reduceEqDiff, Nat.reduceBEq, ↓z_x_eq, z_g_t, z_bI_s, z_bL_s, z_bR_s, z_bV_s, Int.cast_ofNat_Int, beq_self_eq_true, Bool.and_true, Bool.true_and, Bool.and_self, Bool.or_true, Bool.true_or, Bool.false_and, Bool.and_false, Bool.false_or, Bool.or_false, Bool.not_false, Bool.not_true, if_true, if_false, ite_true, ite_false, z_up_eq, z_up_app, z_ro_eq, e2, r12, hX, e5, f12, f83, t59]
  · rw [if_neg bz]
    refine ⟨fun z => absurd z bz, fun _ => ⟨bd, bN, G5, s5, ?_, Q5⟩⟩
    have bz' : (b.1 = 0) = False := eq_false bz
    rw [e_M_clause_65]
    simp -implicitDefEqProofs (disch := first | assumption | omega | rfl | (simp only [z_up_eq, z_up_app, ↓reduceIte, Nat.reduceEqDiff]; omega)) only [z_lit0, z_lit1, z_lit2, z_litl, iI_add, iI_sub, iI_mul, iI_neg, iI_and, iI_or, iI_xor, iI_shl, iI_shr, iI_ushr, iI_div, iI_b, iI_c, iI_i2l, lI_l2i, lI_add, lI_sub, lI_mul, lI_neg, lI_div, lI_or, lI_and, lI_shl, lI_shr, nI_iI, lg_lt0, lg_gt0, lg_eq0, i_ne0', l_ne0', iI_lt, iI_le, iI_eq, lI_lt, lI_le, lI_eq, zb_0, zb_fit, zb_fit0, zb_fit1, i_one_zero, i_w_in, z_tb0, z_tb1, z_tb2, z_tb3, z_tb4, z_tb5, z_tb6, z_tb7, z_tb8, z_tbl, z_tu0, z_tu1, z_tu2, z_i_62, z_i_63, z_i_86, z_i_88, z_l_Y, z_ui_62, z_ui_63, z_ui_86, z_ui_88, z_ul_Y, z_sz_Y, z_sw_Y, iI_nat, z_ix_t, z_at, Int.add_zero, Int.sub_zero, Int.zero_add, Int.mul_zero, ne_eq, Bool.false_eq_true, Bool.true_eq_false, reduceCtorEq, eq_self, and_true, true_and, and_false, false_and, and_self, not_true_eq_false, not_false_eq_true, decide_true, decide_false, ↓reduceIte, Int.reduceEq, Int.reduceNe, Int.reduceLT, Int.reduceLE, Int.reduceAdd, Int.reduceSub, Int.reduceMul, Int.reduceNeg, Nat.reduceAdd, Nat.reduceEqDiff, Nat.reduceBEq, ↓z_x_eq, z_g_t, z_bI_s, z_bL_s, z_bR_s, z_bV_s, Int.cast_ofNat_Int, beq_self_eq_true, Bool.and_true, Bool.true_and, Bool.and_self, Bool.or_true, Bool.true_or, Bool.false_and, Bool.and_false, Bool.false_or, Bool.or_false, Bool.not_false, Bool.not_true, if_true, if_false, ite_true, ite_false, z_up_eq, z_up_app, z_ro_eq, e2, r12, hX, e5, bz']
theorem j_clz_b {K V : Nat → Int} {cs : List UC} {j : Nat} (h1 : ¬ n_so (K j) < 0) (h2 : ¬ (n_so (K j) ≤ 2 ∧ (j_fd (n_so (K j)) cs).isSome = true)) (h3 : ¬ 24 ≤ cs.length) : j_clz K V cs j = j_sc K (j_bd2 K V (n_so (K j)) j).1 (j_bd2 K V (n_so (K j)) j).2.1 (j_bd2 K V (n_so (K j)) j).2.2 := by
  unfold j_clz j_bd2
  rw [if_neg h1, if_neg h2, if_neg h3]
  by_cases c : n_so (K j) ≤ 2
  · rw [if_pos c, if_pos c]
  · rw [if_neg c, if_neg c]
theorem i_has_or1 (x : Int) {q k : Int} (hq : 0 ≤ q ∧ q < 3) (hk : 0 ≤ k ∧ k < 3) : i_has (i_or x (i_shl 1 q)) k = (i_has x k || decide (k = q)) := by
  have h := z_bor_has (fun _ => true) (n := 1) (i := q) (acc := x) hq.1 (by omega) (k := k) (by omega)
  have e : z_bor 1 q (fun _ => true) x = i_or x (i_shl 1 q) := rfl
  rw [e, Bool.and_true] at h
  rw [h]
  by_cases c : k = q
  · rw [decide_eq_true (show q ≤ k ∧ k < q + ((1 : Nat) : Int) by omega), decide_eq_true c]
  · rw [decide_eq_false (show ¬ (q ≤ k ∧ k < q + ((1 : Nat) : Int)) by omega), decide_eq_false c]
theorem j_fd_bd {K V : Nat → Int} {cs : List UC} {j : Nat} {q k : Int} (hn : j_fd q cs = none ∨ 2 < q) (hk : 0 ≤ k ∧ k < 3) (hq : 0 ≤ q) : (j_fd k (cs ++ [(j_sc K (j_bd2 K V q j).1 (j_bd2 K V q j).2.1 (j_bd2 K V q j).2.2).2.2])).isSome = ((j_fd k cs).isSome || decide (k = q)) := by
  have e1 : (j_sc K (j_bd2 K V q j).1 (j_bd2 K V q j).2.1 (j_bd2 K V q j).2.2).2.2 = (j_bd2 K V q j).2.2 := by
    unfold j_sc
    repeat' split
    all_goals rfl
  have e2 : (j_bd2 K V q j).2.2.1 = q := by
    unfold j_bd2
    split <;> rfl
  rw [e1, j_fd_app]
  cases h : j_fd k cs with
  | some D => rfl
  | none =>
    show (if (j_bd2 K V q j).2.2.1 = k then some _ else none).isSome = (false || decide (k = q))
    rw [e2]
    by_cases c : k = q
    · rw [if_pos c.symm, decide_eq_true c]; rfl
    · rw [if_neg (fun z => c z.symm), decide_eq_false c]; rfl
theorem p_mclause {E : Nat} (hE : 14 ≤ E) (hB : y_tm Gb B L) (ht : 0 ≤ t0 ∧ t0 ≤ 2115) (hN : N ≤ 300) (hK : ∀ j, N ≤ j → n_K B L j = 0) {cs : List UC} {j : Nat} (h : n_C B L t0 Gb N cs j G (s.2 80 11)) (hk0 : n_K B L j ≠ 0) : ((j_clz (n_K B L) (n_V B L) cs j).1 = 0 → ∃ G' s', z_call E 110 [vr 80] (z_Y T G s) = some (vi (iI 0), z_Y T G' s') ∧ n_C B L t0 Gb N (cs ++ [(j_clz (n_K B L) (n_V B L) cs j).2.2]) (j_clz (n_K B L) (n_V B L) cs j).2.1 G' (s'.2 80 11)) ∧ ((j_clz (n_K B L) (n_V B L) cs j).1 ≠ 0 → (0 ≤ (j_clz (n_K B L) (n_V B L) cs j).1 ∧ (j_clz (n_K B L) (n_V B L) cs j).1 ≤ 6) ∧ (j_clz (n_K B L) (n_V B L) cs j).2.1 ≤ N ∧ ∃ G' s', z_call E 110 [vr 80] (z_Y T G s) = some (vi (iI (j_clz (n_K B L) (n_V B L) cs j).1), z_Y T G' s') ∧ n_Q B L t0 Gb (j_clz (n_K B L) (n_V B L) cs j).2.1 G' (s'.2 80 11)) := by
  obtain ⟨d, rfl⟩ : ∃ d, E = d + 1 := ⟨E - 1, by omega⟩
  obtain ⟨hQ, ⟨h12, h13, h20⟩, hc, hcl, h24, hwj, hjN⟩ := h
  have rl := n_Q_rl hB hQ
  have so := p_sortOf (E := d) (by omega) T G s rl
  have si := n_so_in (n_K B L j)
  have jl : j + 1 ≤ N := q_ltN (K := n_K B L) hK hk0
  have kk := n_so_k (K := n_K B L j)
  have cz := j_clz_b (K := n_K B L) (V := n_V B L) (cs := cs) (j := j)
  by_cases s0 : n_so (n_K B L j) < 0
  · have e0 : j_clz (n_K B L) (n_V B L) cs j = (1, j, (0, [], [])) := if_pos s0
    rw [e0]
    generalize n_so (n_K B L j) = q at *
    have s0' : (q < 0) = True := eq_true s0
    refine ⟨fun z => (by cases z), fun _ => ⟨⟨by show (0 : Int) ≤ 1; decide, by show (1 : Int) ≤ 6; decide⟩, hjN, G, s, ?_, hQ⟩⟩
    rw [e_M_clause]
    simp -implicitDefEqProofs (disch := first | assumption | omega | rfl | (simp only [z_up_eq, z_up_app, ↓reduceIte, Nat.reduceEqDiff]; omega)) only [z_lit0, z_lit1, z_lit2, z_litl, iI_add, iI_sub, iI_mul, iI_neg, iI_and, iI_or, iI_xor, iI_shl, iI_shr, iI_ushr, iI_div, iI_b, iI_c, iI_i2l, lI_l2i, lI_add, lI_sub, lI_mul, lI_neg, lI_div, lI_or, lI_and, lI_shl, lI_shr, nI_iI, lg_lt0, lg_gt0, lg_eq0, i_ne0', l_ne0', iI_lt, iI_le, iI_eq, lI_lt, lI_le, lI_eq, zb_0, zb_fit, zb_fit0, zb_fit1, i_one_zero, i_w_in, z_tb0, z_tb1, z_tb2, z_tb3, z_tb4, z_tb5, z_tb6, z_tb7, z_tb8, z_tbl, z_tu0, z_tu1, z_tu2, z_i_62, z_i_63, z_i_86, z_i_88, z_l_Y, z_ui_62, z_ui_63, z_ui_86, z_ui_88, z_ul_Y, z_sz_Y, z_sw_Y, iI_nat, z_ix_t, z_at, Int.add_zero, Int.sub_zero, Int.zero_add, Int.mul_zero, ne_eq, Bool.false_eq_true, Bool.true_eq_false, reduceCtorEq, eq_self, and_true, true_and, and_false, false_and, and_self, not_true_eq_false, not_false_eq_true, decide_true, decide_false, ↓reduceIte, Int.reduceEq, Int.reduceNe, Int.reduceLT, Int.reduceLE, Int.reduceAdd, Int.reduceSub, Int.reduceMul, Int.reduceNeg, Nat.reduceAdd, Nat.reduceEqDiff, Nat.reduceBEq, ↓z_x_eq, z_g_t, z_bI_s, z_bL_s, z_bR_s, z_bV_s, Int.cast_ofNat_Int, beq_self_eq_true, Bool.and_true, Bool.true_and, Bool.and_self, Bool.or_true, Bool.true_or, Bool.false_and, Bool.and_false, Bool.false_or, Bool.or_false, Bool.not_false, Bool.not_true, if_true, if_false, ite_true, ite_false, z_up_eq, z_up_app, z_ro_eq, so, s0']
  have s0' : (n_so (n_K B L j) < 0) = False := eq_false s0
  by_cases s4 : n_so (n_K B L j) ≤ 2 ∧ (j_fd (n_so (n_K B L j)) cs).isSome = true
  · have e0 : j_clz (n_K B L) (n_V B L) cs j = (4, j, (0, [], [])) := (if_neg s0).trans (if_pos s4)
    rw [e0]
    generalize n_so (n_K B L j) = q at *
    refine ⟨fun z => (by cases z), fun _ => ⟨⟨by show (0 : Int) ≤ 4; decide, by show (4 : Int) ≤ 6; decide⟩, hjN, G, s, ?_, hQ⟩⟩
    have o := h20 q.toNat (by omega)
    rw [show ((q.toNat : Nat) : Int) = q by omega, s4.2] at o
    have hm := p_mhas (d - 1) (a := G 80 20) (b := q) (z_Y T G s)
    rw [show d - 1 + 1 = d by omega, o, zb_t] at hm
    have q2' : (2 < q) = False := eq_false (by omega)
    rw [e_M_clause]
    simp -implicitDefEqProofs (disch := first | assumption | omega | rfl | (simp only [z_up_eq, z_up_app, ↓reduceIte, Nat.reduceEqDiff]; omega)) only [z_lit0, z_lit1, z_lit2, z_litl, iI_add, iI_sub, iI_mul, iI_neg, iI_and, iI_or, iI_xor, iI_shl, iI_shr, iI_ushr, iI_div, iI_b, iI_c, iI_i2l, lI_l2i, lI_add, lI_sub, lI_mul, lI_neg, lI_div, lI_or, lI_and, lI_shl, lI_shr, nI_iI, lg_lt0, lg_gt0, lg_eq0, i_ne0', l_ne0', iI_lt, iI_le, iI_eq, lI_lt, lI_le, lI_eq, zb_0, zb_fit, zb_fit0, zb_fit1, i_one_zero, i_w_in, z_tb0, z_tb1, z_tb2, z_tb3, z_tb4, z_tb5, z_tb6, z_tb7, z_tb8, z_tbl, z_tu0, z_tu1, z_tu2, z_i_62, z_i_63, z_i_86, z_i_88, z_l_Y, z_ui_62, z_ui_63, z_ui_86, z_ui_88, z_ul_Y, z_sz_Y, z_sw_Y, iI_nat, z_ix_t, z_at, Int.add_zero, Int.sub_zero, Int.zero_add, Int.mul_zero, ne_eq, Bool.false_eq_true, Bool.true_eq_false, reduceCtorEq, eq_self, and_true, true_and, and_false, false_and, and_self, not_true_eq_false, not_false_eq_true, decide_true, decide_false, ↓reduceIte, Int.reduceEq, Int.reduceNe, Int.reduceLT, Int.reduceLE, Int.reduceAdd, Int.reduceSub, Int.reduceMul, Int.reduceNeg, Nat.reduceAdd, Nat.reduceEqDiff, Nat.reduceBEq, ↓z_x_eq, z_g_t, z_bI_s, z_bL_s, z_bR_s, z_bV_s, Int.cast_ofNat_Int, beq_self_eq_true, Bool.and_true, Bool.true_and, Bool.and_self, Bool.or_true, Bool.true_or, Bool.false_and, Bool.and_false, Bool.false_or, Bool.or_false, Bool.not_false, Bool.not_true, if_true, if_false, ite_true, ite_false, z_up_eq, z_up_app, z_ro_eq, so, s0', q2', hm]
  by_cases s6 : 24 ≤ cs.length
  · have e0 : j_clz (n_K B L) (n_V B L) cs j = (6, j, (0, [], [])) := ((if_neg s0).trans (if_neg s4)).trans (if_pos s6)
    rw [e0]
    generalize n_so (n_K B L j) = q at *
    refine ⟨fun z => (by cases z), fun _ => ⟨⟨by show (0 : Int) ≤ 6; decide, by show (6 : Int) ≤ 6; decide⟩, hjN, G, s, ?_, hQ⟩⟩
    have c24 : ((cs.length : Int) = 24) = True := eq_true (by omega)
    rw [e_M_clause]
    by_cases q2 : q ≤ 2
    · have o := h20 q.toNat (by omega)
      rw [show ((q.toNat : Nat) : Int) = q by omega, Bool.eq_false_iff.mpr (fun z => s4 ⟨q2, z⟩)] at o
      have hm := p_mhas (d - 1) (a := G 80 20) (b := q) (z_Y T G s)
      rw [show d - 1 + 1 = d by omega, o, zb_f] at hm
      have q2' : (2 < q) = False := eq_false (by omega)
      simp -implicitDefEqProofs (disch := first | assumption | omega | rfl | (simp only [z_up_eq, z_up_app, ↓reduceIte, Nat.reduceEqDiff]; omega)) only [z_lit0, z_lit1, z_lit2, z_litl, iI_add, iI_sub, iI_mul, iI_neg, iI_and, iI_or, iI_xor, iI_shl, iI_shr, iI_ushr, iI_div, iI_b, iI_c, iI_i2l, lI_l2i, lI_add, lI_sub, lI_mul, lI_neg, lI_div, lI_or, lI_and, lI_shl, lI_shr, nI_iI, lg_lt0, lg_gt0, lg_eq0, i_ne0', l_ne0', iI_lt, iI_le, iI_eq, lI_lt, lI_le, lI_eq, zb_0, zb_fit, zb_fit0, zb_fit1, i_one_zero, i_w_in, z_tb0, z_tb1, z_tb2, z_tb3, z_tb4, z_tb5, z_tb6, z_tb7, z_tb8, z_tbl, z_tu0, z_tu1, z_tu2, z_i_62, z_i_63, z_i_86, z_i_88, z_l_Y, z_ui_62, z_ui_63, z_ui_86, z_ui_88, z_ul_Y, z_sz_Y, z_sw_Y, iI_nat, z_ix_t, z_at, Int.add_zero, Int.sub_zero, Int.zero_add, Int.mul_zero, ne_eq, Bool.false_eq_true, Bool.true_eq_false, reduceCtorEq, eq_self, and_true, true_and, and_false, false_and, and_self, not_true_eq_false, not_false_eq_true, decide_true, decide_false, ↓reduceIte, Int.reduceEq, Int.reduceNe, Int.reduceLT, Int.reduceLE, Int.reduceAdd, Int.reduceSub, Int.reduceMul, Int.reduceNeg, Nat.reduceAdd, Nat.reduceEqDiff, Nat.reduceBEq, ↓z_x_eq, z_g_t, z_bI_s, z_bL_s, z_bR_s, z_bV_s, Int.cast_ofNat_Int, beq_self_eq_true, Bool.and_true, Bool.true_and, Bool.and_self, Bool.or_true, Bool.true_or, Bool.false_and, Bool.and_false, Bool.false_or, Bool.or_false, Bool.not_false, Bool.not_true, if_true, if_false, ite_true, ite_false, z_up_eq, z_up_app, z_ro_eq, so, s0', q2', hm, h12, hc, c24]
    · have q2' : (2 < q) = True := eq_true (by omega)
      simp -implicitDefEqProofs (disch := first | assumption | omega | rfl | (simp only [z_up_eq, z_up_app, ↓reduceIte, Nat.reduceEqDiff]; omega)) only [z_lit0, z_lit1, z_lit2, z_litl, iI_add, iI_sub, iI_mul, iI_neg, iI_and, iI_or, iI_xor, iI_shl, iI_shr, iI_ushr, iI_div, iI_b, iI_c, iI_i2l, lI_l2i, lI_add, lI_sub, lI_mul, lI_neg, lI_div, lI_or, lI_and, lI_shl, lI_shr, nI_iI, lg_lt0, lg_gt0, lg_eq0, i_ne0', l_ne0', iI_lt, iI_le, iI_eq, lI_lt, lI_le, lI_eq, zb_0, zb_fit, zb_fit0, zb_fit1, i_one_zero, i_w_in, z_tb0, z_tb1, z_tb2, z_tb3, z_tb4, z_tb5, z_tb6, z_tb7, z_tb8, z_tbl, z_tu0, z_tu1, z_tu2, z_i_62, z_i_63, z_i_86, z_i_88, z_l_Y, z_ui_62, z_ui_63, z_ui_86, z_ui_88, z_ul_Y, z_sz_Y, z_sw_Y, iI_nat, z_ix_t, z_at, Int.add_zero, Int.sub_zero, Int.zero_add, Int.mul_zero, ne_eq, Bool.false_eq_true, Bool.true_eq_false, reduceCtorEq, eq_self, and_true, true_and, and_false, false_and, and_self, not_true_eq_false, not_false_eq_true, decide_true, decide_false, ↓reduceIte, Int.reduceEq, Int.reduceNe, Int.reduceLT, Int.reduceLE, Int.reduceAdd, Int.reduceSub, Int.reduceMul, Int.reduceNeg, Nat.reduceAdd, Nat.reduceEqDiff, Nat.reduceBEq, ↓z_x_eq, z_g_t, z_bI_s, z_bL_s, z_bR_s, z_bV_s, Int.cast_ofNat_Int, beq_self_eq_true, Bool.and_true, Bool.true_and, Bool.and_self, Bool.or_true, Bool.true_or, Bool.false_and, Bool.and_false, Bool.false_or, Bool.or_false, Bool.not_false, Bool.not_true, if_true, if_false, ite_true, ite_false, z_up_eq, z_up_app, z_ro_eq, so, s0', q2', h12, hc, c24]
  rw [cz s0 s4 s6]
  have c24 : ((cs.length : Int) = 24) = False := eq_false (by omega)
  have hkk := kk (by omega)
  generalize n_so (n_K B L j) = q at *
  by_cases q2 : q ≤ 2
  · have fn : (j_fd q cs).isSome = false := Bool.eq_false_iff.mpr (fun z => s4 ⟨q2, z⟩)
    have o := h20 q.toNat (by omega)
    rw [show ((q.toNat : Nat) : Int) = q by omega, fn] at o
    have hm := p_mhas (d - 1) (a := G 80 20) (b := q) (z_Y T G s)
    rw [show d - 1 + 1 = d by omega, o, zb_f] at hm
    have q2' : (2 < q) = False := eq_false (by omega)
    have Q1 := n_Q_80 hQ (k := 20) (v := i_or (G 80 20) (i_shl 1 q)) (by omega)
    have e1 : z_call (d + 1) 110 [vr 80] (z_Y T G s) = z_w d_M_clause (z_call d) 65 [some (vr 80), some (vi (iI q)), some (vi (iI (cs.length : Int))), none, none] [] (z_Y T (z_up G 80 (z_ro (G 80) 20 (i_or (G 80 20) (i_shl 1 q)))) s) := by
      rw [e_M_clause]
      simp -implicitDefEqProofs (disch := first | assumption | omega | rfl | (simp only [z_up_eq, z_up_app, ↓reduceIte, Nat.reduceEqDiff]; omega)) only [z_lit0, z_lit1, z_lit2, z_litl, iI_add, iI_sub, iI_mul, iI_neg, iI_and, iI_or, iI_xor, iI_shl, iI_shr, iI_ushr, iI_div, iI_b, iI_c, iI_i2l, lI_l2i, lI_add, lI_sub, lI_mul, lI_neg, lI_div, lI_or, lI_and, lI_shl, lI_shr, nI_iI, lg_lt0, lg_gt0, lg_eq0, i_ne0', l_ne0', iI_lt, iI_le, iI_eq, lI_lt, lI_le, lI_eq, zb_0, zb_fit, zb_fit0, zb_fit1, i_one_zero, i_w_in, z_tb0, z_tb1, z_tb2, z_tb3, z_tb4, z_tb5, z_tb6, z_tb7, z_tb8, z_tbl, z_tu0, z_tu1, z_tu2, z_i_62, z_i_63, z_i_86, z_i_88, z_l_Y, z_ui_62, z_ui_63, z_ui_86, z_ui_88, z_ul_Y, z_sz_Y, z_sw_Y, iI_nat, z_ix_t, z_at, Int.add_zero, Int.sub_zero, Int.zero_add, Int.mul_zero, ne_eq, Bool.false_eq_true, Bool.true_eq_false, reduceCtorEq, eq_self, and_true, true_and, and_false, false_and, and_self, not_true_eq_false, not_false_eq_true, decide_true, decide_false, ↓reduceIte, Int.reduceEq, Int.reduceNe, Int.reduceLT, Int.reduceLE, Int.reduceAdd, Int.reduceSub, Int.reduceMul, Int.reduceNeg, Nat.reduceAdd, Nat.reduceEqDiff, Nat.reduceBEq, ↓z_x_eq, z_g_t, z_bI_s, z_bL_s, z_bR_s, z_bV_s, Int.cast_ofNat_Int, beq_self_eq_true, Bool.and_true, Bool.true_and, Bool.and_self, Bool.or_true, Bool.true_or, Bool.false_and, Bool.and_false, Bool.false_or, Bool.or_false, Bool.not_false, Bool.not_true, if_true, if_false, ite_true, ite_false, z_up_eq, z_up_app, z_ro_eq, so, s0', q2', hm, h12, hc, c24]
    have w80 : ∀ k, k ≠ 20 → z_up G 80 (z_ro (G 80) 20 (i_or (G 80 20) (i_shl 1 q))) 80 k = G 80 k := fun k a => by rw [z_up_eq, z_ro_ne _ _ a]
    have w20 : z_up G 80 (z_ro (G 80) 20 (i_or (G 80 20) (i_shl 1 q))) 80 20 = i_or (G 80 20) (i_shl 1 q) := by rw [z_up_eq, z_ro_eq]
    have w83 : z_up G 80 (z_ro (G 80) 20 (i_or (G 80 20) (i_shl 1 q))) 83 = G 83 := z_up_ne _ _ (by omega)
    have fd := fun k hk => j_fd_bd (K := n_K B L) (V := n_V B L) (cs := cs) (j := j) (q := q) (k := k) (Or.inl (by cases z : j_fd q cs with | none => rfl | some D => rw [z] at fn; cases fn)) hk (by omega)
    have m := p_mcl65 (T := T) (s := s) (G := z_up G 80 (z_ro (G 80) 20 (i_or (G 80 20) (i_shl 1 q)))) (E := d) (by omega) hB ht hN hK (cs := cs) (j := j) (q := q) Q1 (by rw [w80 12 (by omega)]; exact h12) (by rw [w80 13 (by omega)]; exact h13) (by rw [w83]; exact hc) (by rw [w83]; exact hcl) (by omega) hwj jl (by omega) hkk.symm rfl
    rw [e1]
    rw [w20] at m
    generalize j_sc (n_K B L) (j_bd2 (n_K B L) (n_V B L) q j).1 (j_bd2 (n_K B L) (n_V B L) q j).2.1 (j_bd2 (n_K B L) (n_V B L) q j).2.2 = y at *
    refine ⟨fun yz => ?_, m.2⟩
    obtain ⟨G', s', a1, a2, ⟨a3, a4, a5⟩, a6, a7, a8, a9⟩ := m.1 yz
    refine ⟨G', s', a1, a2, ⟨a3, a4, fun k hk => ?_⟩, ?_, a7, ?_, a8, a9⟩
    · rw [a5, i_has_or1 _ (by omega) (by omega), fd k (by omega), h20 k hk]
    · rw [a6, List.length_append, List.length_singleton]; omega
    · rw [List.length_append, List.length_singleton]; omega
  · have q2' : (2 < q) = True := eq_true (by omega)
    have e1 : z_call (d + 1) 110 [vr 80] (z_Y T G s) = z_w d_M_clause (z_call d) 65 [some (vr 80), some (vi (iI q)), some (vi (iI (cs.length : Int))), none, none] [] (z_Y T G s) := by
      rw [e_M_clause]
      simp -implicitDefEqProofs (disch := first | assumption | omega | rfl | (simp only [z_up_eq, z_up_app, ↓reduceIte, Nat.reduceEqDiff]; omega)) only [z_lit0, z_lit1, z_lit2, z_litl, iI_add, iI_sub, iI_mul, iI_neg, iI_and, iI_or, iI_xor, iI_shl, iI_shr, iI_ushr, iI_div, iI_b, iI_c, iI_i2l, lI_l2i, lI_add, lI_sub, lI_mul, lI_neg, lI_div, lI_or, lI_and, lI_shl, lI_shr, nI_iI, lg_lt0, lg_gt0, lg_eq0, i_ne0', l_ne0', iI_lt, iI_le, iI_eq, lI_lt, lI_le, lI_eq, zb_0, zb_fit, zb_fit0, zb_fit1, i_one_zero, i_w_in, z_tb0, z_tb1, z_tb2, z_tb3, z_tb4, z_tb5, z_tb6, z_tb7, z_tb8, z_tbl, z_tu0, z_tu1, z_tu2, z_i_62, z_i_63, z_i_86, z_i_88, z_l_Y, z_ui_62, z_ui_63, z_ui_86, z_ui_88, z_ul_Y, z_sz_Y, z_sw_Y, iI_nat, z_ix_t, z_at, Int.add_zero, Int.sub_zero, Int.zero_add, Int.mul_zero, ne_eq, Bool.false_eq_true, Bool.true_eq_false, reduceCtorEq, eq_self, and_true, true_and, and_false, false_and, and_self, not_true_eq_false, not_false_eq_true, decide_true, decide_false, ↓reduceIte, Int.reduceEq, Int.reduceNe, Int.reduceLT, Int.reduceLE, Int.reduceAdd, Int.reduceSub, Int.reduceMul, Int.reduceNeg, Nat.reduceAdd, Nat.reduceEqDiff, Nat.reduceBEq, ↓z_x_eq, z_g_t, z_bI_s, z_bL_s, z_bR_s, z_bV_s, Int.cast_ofNat_Int, beq_self_eq_true, Bool.and_true, Bool.true_and, Bool.and_self, Bool.or_true, Bool.true_or, Bool.false_and, Bool.and_false, Bool.false_or, Bool.or_false, Bool.not_false, Bool.not_true, if_true, if_false, ite_true, ite_false, z_up_eq, z_up_app, z_ro_eq, so, s0', q2', h12, hc, c24]
    have fd := fun k hk => j_fd_bd (K := n_K B L) (V := n_V B L) (cs := cs) (j := j) (q := q) (k := k) (Or.inr (by omega)) hk (by omega)
    have m := p_mcl65 (T := T) (s := s) (G := G) (E := d) (by omega) hB ht hN hK (cs := cs) (j := j) (q := q) hQ h12 h13 hc hcl (by omega) hwj jl (by omega) hkk.symm rfl
    rw [e1]
    generalize j_sc (n_K B L) (j_bd2 (n_K B L) (n_V B L) q j).1 (j_bd2 (n_K B L) (n_V B L) q j).2.1 (j_bd2 (n_K B L) (n_V B L) q j).2.2 = y at *
    refine ⟨fun yz => ?_, m.2⟩
    obtain ⟨G', s', a1, a2, ⟨a3, a4, a5⟩, a6, a7, a8, a9⟩ := m.1 yz
    refine ⟨G', s', a1, a2, ⟨a3, a4, fun k hk => ?_⟩, ?_, a7, ?_, a8, a9⟩
    · rw [a5, fd k (by omega), h20 k hk, decide_eq_false (show ¬ ((k : Int) = q) by omega), Bool.or_false]
    · rw [a6, List.length_append, List.length_singleton]; omega
    · rw [List.length_append, List.length_singleton]; omega
end

/-! THE PURE PART, 113: the law's loop (printed by gen/law99.py) -/
section
variable {S0 : ZG} {c : Int} {T : ZT} {G : ZG} {s : ZG × ZG}
theorem lw_all {i : Int} {N : Nat} (hS : y_S S0) (h : z_I S0 c T G) (hc : c < 600) (hk : T.1 1 = (20, N)) (hi : 0 ≤ i ∧ i + 6 ≤ N) (hN : N ≤ 3072) (hx : ∀ k, i_in (G 1 k)) : ∃ T2 G2 s2, z_w d_L_law (z_call 60) 18 [some (vr 1), some (vr 10), some (vr 80), some (vi (iI i))] [] (z_Y T G s) = z_w d_L_law (z_call 60) 1487 [some (vr 1), some (vr 10), some (vr 80), some (vi (iI i))] [] (z_Y T2 G2 s2) ∧ z_I S0 (c + 1) T2 G2 ∧ T2.1 1 = T.1 1 := by
  have kT : ∀ G s, z_kd (z_Y T G s) 1 = 20 := fun G s => by show (T.1 1).1 = 20; rw [hk]
  have lT : ∀ G s, z_ln (z_Y T G s) 1 = N := fun G s => by show (T.1 1).2 = N; rw [hk]
  have b1 : Nat.ble 20 20 = true := rfl
  have b2 : Nat.ble 20 24 = true := rfl
  have lt : ((N : Int) - 6 < i) = False := eq_false (by omega)
  have g1 : (Nat.ble 20 (z_kd (z_Y T G s) 1) && Nat.ble (z_kd (z_Y T G s) 1) 24) = true := by rw [kT]; rfl
  have c1 : (((nI (z_ln (z_Y T G s) 1)) - (6 : Int32)) < iI i) = False := by
    rw [lT]
    simp -implicitDefEqProofs (disch := first | assumption | omega | rfl | (simp only [z_up_eq, z_up_app, ↓reduceIte, Nat.reduceEqDiff]; omega)) only [z_lit0, z_lit1, z_lit2, z_litl, iI_add, iI_sub, iI_mul, iI_neg, iI_and, iI_or, iI_xor, iI_shl, iI_shr, iI_ushr, iI_div, iI_b, iI_c, iI_i2l, lI_l2i, lI_add, lI_sub, lI_mul, lI_neg, lI_div, lI_or, lI_and, lI_shl, lI_shr, nI_iI, lg_lt0, lg_gt0, lg_eq0, i_ne0', l_ne0', iI_lt, iI_le, iI_eq, lI_lt, lI_le, lI_eq, zb_0, zb_fit, zb_fit0, zb_fit1, i_one_zero, i_w_in, z_tb0, z_tb1, z_tb2, z_tb3, z_tb4, z_tb5, z_tb6, z_tb7, z_tb8, z_tbl, z_tu0, z_tu1, z_tu2, z_i_62, z_i_63, z_i_86, z_i_88, z_l_Y, z_ui_62, z_ui_63, z_ui_86, z_ui_88, z_ul_Y, z_sz_Y, z_sw_Y, iI_nat, z_ix_t, z_at, Int.add_zero, Int.sub_zero, Int.zero_add, Int.mul_zero, ne_eq, Bool.false_eq_true, Bool.true_eq_false, reduceCtorEq, eq_self, and_true, true_and, and_false, false_and, and_self, not_true_eq_false, not_false_eq_true, decide_true, decide_false, ↓reduceIte, Int.reduceEq, Int.reduceNe, Int.reduceLT, Int.reduceLE, Int.reduceAdd, Int.reduceSub, Int.reduceMul, Int.reduceNeg, Nat.reduceAdd, Nat.reduceEqDiff, Nat.reduceBEq, ↓z_x_eq, z_g_t, z_bI_s, z_bL_s, z_bR_s, z_bV_s, Int.cast_ofNat_Int, beq_self_eq_true, Bool.and_true, Bool.true_and, Bool.and_self, Bool.or_true, Bool.true_or, Bool.false_and, Bool.and_false, Bool.false_or, Bool.or_false, Bool.not_false, Bool.not_true, if_true, if_false, ite_true, ite_false, z_up_eq, z_up_app, z_ro_eq, lt]
  have g2 : z_at (z_Y T G s) 1 20 (iI i) = true := by
    simp -implicitDefEqProofs (disch := first | assumption | omega | rfl | (simp only [z_up_eq, z_up_app, ↓reduceIte, Nat.reduceEqDiff]; omega)) only [z_lit0, z_lit1, z_lit2, z_litl, iI_add, iI_sub, iI_mul, iI_neg, iI_and, iI_or, iI_xor, iI_shl, iI_shr, iI_ushr, iI_div, iI_b, iI_c, iI_i2l, lI_l2i, lI_add, lI_sub, lI_mul, lI_neg, lI_div, lI_or, lI_and, lI_shl, lI_shr, nI_iI, lg_lt0, lg_gt0, lg_eq0, i_ne0', l_ne0', iI_lt, iI_le, iI_eq, lI_lt, lI_le, lI_eq, zb_0, zb_fit, zb_fit0, zb_fit1, i_one_zero, i_w_in, z_tb0, z_tb1, z_tb2, z_tb3, z_tb4, z_tb5, z_tb6, z_tb7, z_tb8, z_tbl, z_tu0, z_tu1, z_tu2, z_i_62, z_i_63, z_i_86, z_i_88, z_l_Y, z_ui_62, z_ui_63, z_ui_86, z_ui_88, z_ul_Y, z_sz_Y, z_sw_Y, iI_nat, z_ix_t, z_at, Int.add_zero, Int.sub_zero, Int.zero_add, Int.mul_zero, ne_eq, Bool.false_eq_true, Bool.true_eq_false, reduceCtorEq, eq_self, and_true, true_and, and_false, false_and, and_self, not_true_eq_false, not_false_eq_true, decide_true, decide_false, ↓reduceIte, Int.reduceEq, Int.reduceNe, Int.reduceLT, Int.reduceLE, Int.reduceAdd, Int.reduceSub, Int.reduceMul, Int.reduceNeg, Nat.reduceAdd, Nat.reduceEqDiff, Nat.reduceBEq, ↓z_x_eq, z_g_t, z_bI_s, z_bL_s, z_bR_s, z_bV_s, Int.cast_ofNat_Int, beq_self_eq_true, Bool.and_true, Bool.true_and, Bool.and_self, Bool.or_true, Bool.true_or, Bool.false_and, Bool.and_false, Bool.false_or, Bool.or_false, Bool.not_false, Bool.not_true, if_true, if_false, ite_true, ite_false, z_up_eq, z_up_app, z_ro_eq, kT, lT]
  have ei : z_i (z_Y T G s) 1 (iI i).toNatClampNeg = iI (G 1 i) := by
    simp -implicitDefEqProofs (disch := first | assumption | omega | rfl | (simp only [z_up_eq, z_up_app, ↓reduceIte, Nat.reduceEqDiff]; omega)) only [z_lit0, z_lit1, z_lit2, z_litl, iI_add, iI_sub, iI_mul, iI_neg, iI_and, iI_or, iI_xor, iI_shl, iI_shr, iI_ushr, iI_div, iI_b, iI_c, iI_i2l, lI_l2i, lI_add, lI_sub, lI_mul, lI_neg, lI_div, lI_or, lI_and, lI_shl, lI_shr, nI_iI, lg_lt0, lg_gt0, lg_eq0, i_ne0', l_ne0', iI_lt, iI_le, iI_eq, lI_lt, lI_le, lI_eq, zb_0, zb_fit, zb_fit0, zb_fit1, i_one_zero, i_w_in, z_tb0, z_tb1, z_tb2, z_tb3, z_tb4, z_tb5, z_tb6, z_tb7, z_tb8, z_tbl, z_tu0, z_tu1, z_tu2, z_i_62, z_i_63, z_i_86, z_i_88, z_l_Y, z_ui_62, z_ui_63, z_ui_86, z_ui_88, z_ul_Y, z_sz_Y, z_sw_Y, iI_nat, z_ix_t, z_at, Int.add_zero, Int.sub_zero, Int.zero_add, Int.mul_zero, ne_eq, Bool.false_eq_true, Bool.true_eq_false, reduceCtorEq, eq_self, and_true, true_and, and_false, false_and, and_self, not_true_eq_false, not_false_eq_true, decide_true, decide_false, ↓reduceIte, Int.reduceEq, Int.reduceNe, Int.reduceLT, Int.reduceLE, Int.reduceAdd, Int.reduceSub, Int.reduceMul, Int.reduceNeg, Nat.reduceAdd, Nat.reduceEqDiff, Nat.reduceBEq, ↓z_x_eq, z_g_t, z_bI_s, z_bL_s, z_bR_s, z_bV_s, Int.cast_ofNat_Int, beq_self_eq_true, Bool.and_true, Bool.true_and, Bool.and_self, Bool.or_true, Bool.true_or, Bool.false_and, Bool.and_false, Bool.false_or, Bool.or_false, Bool.not_false, Bool.not_true, if_true, if_false, ite_true, ite_false, z_up_eq, z_up_app, z_ro_eq]
  rw [e_L_law_18, g1, z_g_t, if_neg (of_eq_false c1), g2, z_g_t, ei]
  generalize (iI (G 1 i) &&& (63 : Int32)) = w
  by_cases q0 : w = (0 : Int32)
  · rw [if_pos q0]; exact lw_0 h hc hk hi hN hx
  rw [if_neg q0]
  by_cases q1 : w = (1 : Int32)
  · rw [if_pos q1]; exact lw_1 h hc hk hi hN hx
  rw [if_neg q1]
  by_cases q2 : w = (2 : Int32)
  · rw [if_pos q2]; exact lw_2 h hc hk hi hN hx
  rw [if_neg q2]
  by_cases q3 : w = (3 : Int32)
  · rw [if_pos q3]; exact lw_3 h hc hk hi hN hx
  rw [if_neg q3]
  by_cases q4 : w = (4 : Int32)
  · rw [if_pos q4]; exact lw_4 h hc hk hi hN hx
  rw [if_neg q4]
  by_cases q5 : w = (5 : Int32)
  · rw [if_pos q5]; exact lw_5 h hc hk hi hN hx hS
  rw [if_neg q5]
  by_cases q6 : w = (6 : Int32)
  · rw [if_pos q6]; exact lw_6 h hc hk hi hN hx
  rw [if_neg q6]
  by_cases q7 : w = (7 : Int32)
  · rw [if_pos q7]; exact lw_7 h hc hk hi hN hx
  rw [if_neg q7]
  by_cases q8 : w = (8 : Int32)
  · rw [if_pos q8]; exact lw_8 h hc hk hi hN hx
  rw [if_neg q8]
  by_cases q9 : w = (9 : Int32)
  · rw [if_pos q9]; exact lw_9 h hc hk hi hN hx
  rw [if_neg q9]
  by_cases q10 : w = (10 : Int32)
  · rw [if_pos q10]; exact lw_10 h hc hk hi hN hx
  rw [if_neg q10]
  by_cases q11 : w = (11 : Int32)
  · rw [if_pos q11]; exact lw_11 h hc hk hi hN hx
  rw [if_neg q11]
  by_cases q12 : w = (12 : Int32)
  · rw [if_pos q12]; exact lw_12 h hc hk hi hN hx
  rw [if_neg q12]
  by_cases q13 : w = (13 : Int32)
  · rw [if_pos q13]; exact lw_13 h hc hk hi hN hx
  rw [if_neg q13]
  by_cases q14 : w = (14 : Int32)
  · rw [if_pos q14]; exact lw_14 h hc hk hi hN hx
  rw [if_neg q14]
  by_cases q15 : w = (15 : Int32)
  · rw [if_pos q15]; exact lw_15 h hc hk hi hN hx
  rw [if_neg q15]
  by_cases q16 : w = (16 : Int32)
  · rw [if_pos q16]; exact lw_16 h hc hk hi hN hx
  rw [if_neg q16]
  by_cases q17 : w = (17 : Int32)
  · rw [if_pos q17]; exact lw_17 h hc hk hi hN hx
  rw [if_neg q17]
  by_cases q18 : w = (18 : Int32)
  · rw [if_pos q18]; exact lw_18 h hc hk hi hN hx
  rw [if_neg q18]
  by_cases q19 : w = (19 : Int32)
  · rw [if_pos q19]; exact lw_19 h hc hk hi hN hx
  rw [if_neg q19]
  by_cases q20 : w = (20 : Int32)
  · rw [if_pos q20]; exact lw_20 h hc hk hi hN hx
  rw [if_neg q20]
  by_cases q21 : w = (21 : Int32)
  · rw [if_pos q21]; exact lw_21 h hc hk hi hN hx
  rw [if_neg q21]
  by_cases q22 : w = (22 : Int32)
  · rw [if_pos q22]; exact lw_22 h hc hk hi hN hx
  rw [if_neg q22]
  by_cases q23 : w = (23 : Int32)
  · rw [if_pos q23]; exact lw_23 h hc hk hi hN hx
  rw [if_neg q23]
  by_cases q24 : w = (24 : Int32)
  · rw [if_pos q24]; exact lw_24 h hc hk hi hN hx
  rw [if_neg q24]
  by_cases q25 : w = (25 : Int32)
  · rw [if_pos q25]; exact lw_25 h hc hk hi hN hx
  rw [if_neg q25]
  by_cases q26 : w = (26 : Int32)
  · rw [if_pos q26]; exact lw_26 h hc hk hi hN hx
  rw [if_neg q26]
  by_cases q27 : w = (27 : Int32)
  · rw [if_pos q27]; exact lw_27 h hc hk hi hN hx
  rw [if_neg q27]
  by_cases q28 : w = (28 : Int32)
  · rw [if_pos q28]; exact lw_28 h hc hk hi hN hx
  rw [if_neg q28]
  by_cases q29 : w = (29 : Int32)
  · rw [if_pos q29]; exact lw_29 h hc hk hi hN hx
  rw [if_neg q29]
  by_cases q30 : w = (30 : Int32)
  · rw [if_pos q30]; exact lw_30 h hc hk hi hN hx
  rw [if_neg q30]
  by_cases q31 : w = (31 : Int32)
  · rw [if_pos q31]; exact lw_31 h hc hk hi hN hx
  rw [if_neg q31]
  by_cases q32 : w = (32 : Int32)
  · rw [if_pos q32]; exact lw_32 h hc hk hi hN hx
  rw [if_neg q32]
  by_cases q33 : w = (33 : Int32)
  · rw [if_pos q33]; exact lw_33 h hc hk hi hN hx
  rw [if_neg q33]
  by_cases q34 : w = (34 : Int32)
  · rw [if_pos q34]; exact lw_34 h hc hk hi hN hx
  rw [if_neg q34]
  by_cases q35 : w = (35 : Int32)
  · rw [if_pos q35]; exact lw_35 h hc hk hi hN hx
  rw [if_neg q35]
  by_cases q36 : w = (36 : Int32)
  · rw [if_pos q36]; exact lw_36 h hc hk hi hN hx
  rw [if_neg q36]
  by_cases q37 : w = (37 : Int32)
  · rw [if_pos q37]; exact lw_37 h hc hk hi hN hx
  rw [if_neg q37]
  by_cases q38 : w = (38 : Int32)
  · rw [if_pos q38]; exact lw_38 h hc hk hi hN hx
  rw [if_neg q38]
  by_cases q39 : w = (39 : Int32)
  · rw [if_pos q39]; exact lw_39 h hc hk hi hN hx
  rw [if_neg q39]
  by_cases q40 : w = (40 : Int32)
  · rw [if_pos q40]; exact lw_40 h hc hk hi hN hx
  rw [if_neg q40]
  by_cases q41 : w = (41 : Int32)
  · rw [if_pos q41]; exact lw_41 h hc hk hi hN hx
  rw [if_neg q41]
  exact ⟨T, G, s, rfl, I_same h hc, rfl⟩
theorem lw_loop {N : Nat} (hS : y_S S0) (hN : N ≤ 3072) (hx : ∀ k, i_in (S0 1 k)) : ∀ (m : Nat) (c : Int) (T : ZT) (G : ZG) (s : ZG × ZG), z_I S0 c T G → T.1 1 = (20, N) → (N : Int) < 6 * c + 6 + 6 * m → 6 * c ≤ N → ∃ τ, z_w d_L_law (z_call 60) 18 [some (vr 1), some (vr 10), some (vr 80), some (vi (iI (6 * c)))] [] (z_Y T G s) = some (vi 1, τ) ∧ z_sz τ ≤ 600010 ∧ z_sw τ ≤ 7302250 := by
  intro m
  induction m with
  | zero =>
    intro c T G s h hk h1 h2
    obtain ⟨s1, s2⟩ := h.2.2.2.2.2.2.2.2.2.2.1
    have s3 := h.2.2.2.2.2.2.2.2.2.2.2.1
    have s4 := h.2.2.2.2.2.2.2.2.2.2.2.2.1
    have kT : ∀ G s, z_kd (z_Y T G s) 1 = 20 := fun G s => by show (T.1 1).1 = 20; rw [hk]
    have lT : ∀ G s, z_ln (z_Y T G s) 1 = N := fun G s => by show (T.1 1).2 = N; rw [hk]
    have b1 : Nat.ble 20 20 = true := rfl
    have b2 : Nat.ble 20 24 = true := rfl
    have lt : ((N : Int) - 6 < 6 * c) = True := eq_true (by omega)
    refine ⟨z_Y T G s, ?_, by show T.2.2.1 ≤ _; omega, by show T.2.2.2 ≤ _; omega⟩
    rw [e_L_law_18]
    simp -implicitDefEqProofs (disch := first | assumption | omega | rfl | (simp only [z_up_eq, z_up_app, ↓reduceIte, Nat.reduceEqDiff]; omega)) only [z_lit0, z_lit1, z_lit2, z_litl, iI_add, iI_sub, iI_mul, iI_neg, iI_and, iI_or, iI_xor, iI_shl, iI_shr, iI_ushr, iI_div, iI_b, iI_c, iI_i2l, lI_l2i, lI_add, lI_sub, lI_mul, lI_neg, lI_div, lI_or, lI_and, lI_shl, lI_shr, nI_iI, lg_lt0, lg_gt0, lg_eq0, i_ne0', l_ne0', iI_lt, iI_le, iI_eq, lI_lt, lI_le, lI_eq, zb_0, zb_fit, zb_fit0, zb_fit1, i_one_zero, i_w_in, z_tb0, z_tb1, z_tb2, z_tb3, z_tb4, z_tb5, z_tb6, z_tb7, z_tb8, z_tbl, z_tu0, z_tu1, z_tu2, z_i_62, z_i_63, z_i_86, z_i_88, z_l_Y, z_ui_62, z_ui_63, z_ui_86, z_ui_88, z_ul_Y, z_sz_Y, z_sw_Y, iI_nat, z_ix_t, z_at, Int.add_zero, Int.sub_zero, Int.zero_add, Int.mul_zero, ne_eq, Bool.false_eq_true, Bool.true_eq_false, reduceCtorEq, eq_self, and_true, true_and, and_false, false_and, and_self, not_true_eq_false, not_false_eq_true, decide_true, decide_false, ↓reduceIte, Int.reduceEq, Int.reduceNe, Int.reduceLT, Int.reduceLE, Int.reduceAdd, Int.reduceSub, Int.reduceMul, Int.reduceNeg, Nat.reduceAdd, Nat.reduceEqDiff, Nat.reduceBEq, ↓z_x_eq, z_g_t, z_bI_s, z_bL_s, z_bR_s, z_bV_s, Int.cast_ofNat_Int, beq_self_eq_true, Bool.and_true, Bool.true_and, Bool.and_self, Bool.or_true, Bool.true_or, Bool.false_and, Bool.and_false, Bool.false_or, Bool.or_false, Bool.not_false, Bool.not_true, if_true, if_false, ite_true, ite_false, z_up_eq, z_up_app, z_ro_eq, kT, lT, b1, b2, lt]
  | succ m ih =>
    intro c T G s h hk h1 h2
    obtain ⟨s1, s2⟩ := h.2.2.2.2.2.2.2.2.2.2.1
    have s3 := h.2.2.2.2.2.2.2.2.2.2.2.1
    have s4 := h.2.2.2.2.2.2.2.2.2.2.2.2.1
    by_cases e : (N : Int) - 6 < 6 * c
    · have kT : ∀ G s, z_kd (z_Y T G s) 1 = 20 := fun G s => by show (T.1 1).1 = 20; rw [hk]
      have lT : ∀ G s, z_ln (z_Y T G s) 1 = N := fun G s => by show (T.1 1).2 = N; rw [hk]
      have b1 : Nat.ble 20 20 = true := rfl
      have b2 : Nat.ble 20 24 = true := rfl
      have lt : ((N : Int) - 6 < 6 * c) = True := eq_true e
      refine ⟨z_Y T G s, ?_, by show T.2.2.1 ≤ _; omega, by show T.2.2.2 ≤ _; omega⟩
      rw [e_L_law_18]
      simp -implicitDefEqProofs (disch := first | assumption | omega | rfl | (simp only [z_up_eq, z_up_app, ↓reduceIte, Nat.reduceEqDiff]; omega)) only [z_lit0, z_lit1, z_lit2, z_litl, iI_add, iI_sub, iI_mul, iI_neg, iI_and, iI_or, iI_xor, iI_shl, iI_shr, iI_ushr, iI_div, iI_b, iI_c, iI_i2l, lI_l2i, lI_add, lI_sub, lI_mul, lI_neg, lI_div, lI_or, lI_and, lI_shl, lI_shr, nI_iI, lg_lt0, lg_gt0, lg_eq0, i_ne0', l_ne0', iI_lt, iI_le, iI_eq, lI_lt, lI_le, lI_eq, zb_0, zb_fit, zb_fit0, zb_fit1, i_one_zero, i_w_in, z_tb0, z_tb1, z_tb2, z_tb3, z_tb4, z_tb5, z_tb6, z_tb7, z_tb8, z_tbl, z_tu0, z_tu1, z_tu2, z_i_62, z_i_63, z_i_86, z_i_88, z_l_Y, z_ui_62, z_ui_63, z_ui_86, z_ui_88, z_ul_Y, z_sz_Y, z_sw_Y, iI_nat, z_ix_t, z_at, Int.add_zero, Int.sub_zero, Int.zero_add, Int.mul_zero, ne_eq, Bool.false_eq_true, Bool.true_eq_false, reduceCtorEq, eq_self, and_true, true_and, and_false, false_and, and_self, not_true_eq_false, not_false_eq_true, decide_true, decide_false, ↓reduceIte, Int.reduceEq, Int.reduceNe, Int.reduceLT, Int.reduceLE, Int.reduceAdd, Int.reduceSub, Int.reduceMul, Int.reduceNeg, Nat.reduceAdd, Nat.reduceEqDiff, Nat.reduceBEq, ↓z_x_eq, z_g_t, z_bI_s, z_bL_s, z_bR_s, z_bV_s, Int.cast_ofNat_Int, beq_self_eq_true, Bool.and_true, Bool.true_and, Bool.and_self, Bool.or_true, Bool.true_or, Bool.false_and, Bool.and_false, Bool.false_or, Bool.or_false, Bool.not_false, Bool.not_true, if_true, if_false, ite_true, ite_false, z_up_eq, z_up_app, z_ro_eq, kT, lT, b1, b2, lt]
    · have hg : G 1 = S0 1 := h.2.1 1 (by omega)
      obtain ⟨T2, G2, s2', e1, hI, hT⟩ := lw_all (s := s) (i := 6 * c) (N := N) hS h (by omega) hk (by omega) hN (fun k => by rw [hg]; exact hx k)
      obtain ⟨τ, e2, t1, t2⟩ := ih (c + 1) T2 G2 s2' hI (by rw [hT]; exact hk) (by omega) (by omega)
      refine ⟨τ, ?_, t1, t2⟩
      rw [e1, e_L_law_1487]
      have l6 : iI (6 * c) + (6 : Int32) = iI (6 * (c + 1)) := by
        have z : (6 : Int32) = iI 6 := rfl
        rw [z, iI_add, show 6 * c + 6 = 6 * (c + 1) by omega]
      rw [l6]; exact e2
end

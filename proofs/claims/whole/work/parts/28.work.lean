/-! THE PURE PART, 8: the model's work -/
theorem z_bv_88 (T : ZT) (G : ZG) (s : ZG × ZG) (x : Int) : z_bv (z_Y T G s) 88 (iI x) = iI (i_and x 1) := by
  show (if z_kd (z_Y T G s) 88 = 21 then _ else iI x &&& 1) = _
  rw [if_neg (by simp only [z_tb0, z_tb1, z_tb2, z_tb3, z_tb4, z_tb5, z_tb6, z_tb7, z_tb8, z_tbl, z_tu0, z_tu1, z_tu2]; decide)]
  exact iI_and x 1

set_option maxHeartbeats 4000000 in
theorem p_work_1 (d : Nat) (T : ZT) (G : ZG) (s : ZG × ZG) {al : Int → Bool} {N : Int → Int} {x c t i n m : Int} {V B : Int → Int} (hx : 0 ≤ x ∧ x < 2800) (hc : 0 ≤ c ∧ c ≤ 2212) (hi : 0 ≤ i ∧ i < t) (ht : t ≤ 300) (hX : G 83 (x + 2) = t) (hN : ∀ k, al k = true → e_b (N k)) (hs : ∀ k, al k = true → s.1 86 k = N k) (hw : e_wo al (G 83 (c + 2 * i)) (G 83 (c + 2 * i + 1)) n m) (he : e_in (n, V, m, B)) (hr : e_rm (n, V, m, B) s) : ∃ s', z_w d_M_work (z_call (d + 2)) 38 [some (vr 80), none, none, some (vi (iI x)), some (vi (iI c)), some (vi (iI n)), some (vi (iI m)), some (vi (iI i)), none, none] [] (z_Y T G s) = z_w d_M_work (z_call (d + 2)) 38 [some (vr 80), none, none, some (vi (iI x)), some (vi (iI c)), some (vi (iI (e_n (G 83 (c + 2 * i)) n))), some (vi (iI (e_m (G 83 (c + 2 * i)) m))), some (vi (iI (i + 1))), none, none] [] (z_Y T G s') ∧ e_rm (e_stp N (G 83 (c + 2 * i)) (G 83 (c + 2 * i + 1)) (n, V, m, B)) s' ∧ s'.1 86 = s.1 86 := by
  obtain ⟨h1, h2, h3, h4, h5⟩ := he
  obtain ⟨r1, r2⟩ := hr
  dsimp only at h1 h2 h3 h4 h5 r1 r2
  rw [e_M_work_38]
  rcases hw with ⟨ho, w1, w2, w3⟩ | ⟨ho, w1, w2, w3, w4⟩ | ⟨ho, w⟩ | ⟨ho, w⟩ | ⟨ho, w⟩ | ⟨ho, w⟩ | ⟨ho, w, w2⟩ | ⟨ho, w, w2⟩
  · rw [ho]
    simp -implicitDefEqProofs (disch := first | assumption | omega | rfl) only [z_lit0, z_lit1, z_lit2, z_litl, iI_add, iI_sub, iI_mul, iI_neg, iI_and, iI_or, iI_xor, iI_shl, iI_shr, iI_ushr, iI_div, iI_b, iI_c, iI_i2l, lI_l2i, lI_add, lI_sub, lI_mul, lI_neg, lI_div, lI_or, lI_and, lI_shl, lI_shr, nI_iI, lg_lt0, lg_gt0, lg_eq0, i_ne0', l_ne0', iI_lt, iI_le, iI_eq, lI_lt, lI_le, lI_eq, zb_0, zb_fit, zb_fit0, zb_fit1, i_one_zero, i_w_in, z_tb0, z_tb1, z_tb2, z_tb3, z_tb4, z_tb5, z_tb6, z_tb7, z_tb8, z_tbl, z_tu0, z_tu1, z_tu2, z_i_62, z_i_63, z_i_86, z_i_88, z_l_Y, z_ui_62, z_ui_63, z_ui_86, z_ui_88, z_ul_Y, z_sz_Y, z_sw_Y, iI_nat, z_ix_t, z_at, Int.add_zero, Int.sub_zero, Int.zero_add, Int.mul_zero, ne_eq, Bool.false_eq_true, Bool.true_eq_false, reduceCtorEq, eq_self, and_true, true_and, and_false, false_and, and_self, not_true_eq_false, not_false_eq_true, decide_true, decide_false, ↓reduceIte, Int.reduceEq, Int.reduceNe, Int.reduceLT, Int.reduceLE, Int.reduceAdd, Int.reduceSub, Int.reduceMul, Int.reduceNeg, Nat.reduceAdd, Nat.reduceEqDiff, Nat.reduceBEq, ↓z_x_eq, z_g_t, z_bI_s, z_bL_s, z_bR_s, z_bV_s, Int.cast_ofNat_Int, beq_self_eq_true, Bool.and_true, Bool.true_and, Bool.and_self, Bool.or_true, Bool.true_or, Bool.false_and, Bool.and_false, Bool.false_or, Bool.or_false, Bool.not_false, Bool.not_true, if_true, if_false, ite_true, ite_false, z_up_eq, z_up_app, z_ro_eq, hX, ho, hi.2, e_M_work_395]
    refine ⟨_, rfl, ?_, rfl⟩
    rw [e_s0]
    refine ⟨?_, r2⟩
    show ∀ k, 0 ≤ k → k < n + 1 → z_up s.2 87 _ 87 k = _
    rw [z_up_eq]
    exact e_ro_q r1 rfl (Or.inr ⟨Int.le_refl _, rfl⟩)
  · have q := hN _ w1
    have q2 := hs _ w1
    rw [← q2] at q
    rw [ho]
    simp -implicitDefEqProofs (disch := first | assumption | omega | rfl) only [z_lit0, z_lit1, z_lit2, z_litl, iI_add, iI_sub, iI_mul, iI_neg, iI_and, iI_or, iI_xor, iI_shl, iI_shr, iI_ushr, iI_div, iI_b, iI_c, iI_i2l, lI_l2i, lI_add, lI_sub, lI_mul, lI_neg, lI_div, lI_or, lI_and, lI_shl, lI_shr, nI_iI, lg_lt0, lg_gt0, lg_eq0, i_ne0', l_ne0', iI_lt, iI_le, iI_eq, lI_lt, lI_le, lI_eq, zb_0, zb_fit, zb_fit0, zb_fit1, i_one_zero, i_w_in, z_tb0, z_tb1, z_tb2, z_tb3, z_tb4, z_tb5, z_tb6, z_tb7, z_tb8, z_tbl, z_tu0, z_tu1, z_tu2, z_i_62, z_i_63, z_i_86, z_i_88, z_l_Y, z_ui_62, z_ui_63, z_ui_86, z_ui_88, z_ul_Y, z_sz_Y, z_sw_Y, iI_nat, z_ix_t, z_at, Int.add_zero, Int.sub_zero, Int.zero_add, Int.mul_zero, ne_eq, Bool.false_eq_true, Bool.true_eq_false, reduceCtorEq, eq_self, and_true, true_and, and_false, false_and, and_self, not_true_eq_false, not_false_eq_true, decide_true, decide_false, ↓reduceIte, Int.reduceEq, Int.reduceNe, Int.reduceLT, Int.reduceLE, Int.reduceAdd, Int.reduceSub, Int.reduceMul, Int.reduceNeg, Nat.reduceAdd, Nat.reduceEqDiff, Nat.reduceBEq, ↓z_x_eq, z_g_t, z_bI_s, z_bL_s, z_bR_s, z_bV_s, Int.cast_ofNat_Int, beq_self_eq_true, Bool.and_true, Bool.true_and, Bool.and_self, Bool.or_true, Bool.true_or, Bool.false_and, Bool.and_false, Bool.false_or, Bool.or_false, Bool.not_false, Bool.not_true, if_true, if_false, ite_true, ite_false, z_up_eq, z_up_app, z_ro_eq, hX, ho, hi.2, e_M_work_395]
    refine ⟨_, rfl, ?_, rfl⟩
    rw [e_s1]
    refine ⟨?_, r2⟩
    show ∀ k, 0 ≤ k → k < n + 1 → z_up s.2 87 _ 87 k = _
    rw [z_up_eq]
    exact e_ro_q r1 q2 (Or.inr ⟨Int.le_refl _, rfl⟩)
  · have q1 := h4 (n - 3) (by omega) (by omega)
    have q2 := h4 (n - 2) (by omega) (by omega)
    have q3 := h4 (n - 1) (by omega) (by omega)
    have g1 := r1 (n - 3) (by omega) (by omega)
    have g2 := r1 (n - 2) (by omega) (by omega)
    have g3 := r1 (n - 1) (by omega) (by omega)
    have a1 : n - 2 - 1 = n - 3 := by omega
    have a2 : n + -2 = n - 2 := by omega
    have a3 : n - 2 + 1 = n - 1 := by omega
    rw [ho]
    simp -implicitDefEqProofs (disch := first | assumption | omega | rfl) only [z_lit0, z_lit1, z_lit2, z_litl, iI_add, iI_sub, iI_mul, iI_neg, iI_and, iI_or, iI_xor, iI_shl, iI_shr, iI_ushr, iI_div, iI_b, iI_c, iI_i2l, lI_l2i, lI_add, lI_sub, lI_mul, lI_neg, lI_div, lI_or, lI_and, lI_shl, lI_shr, nI_iI, lg_lt0, lg_gt0, lg_eq0, i_ne0', l_ne0', iI_lt, iI_le, iI_eq, lI_lt, lI_le, lI_eq, zb_0, zb_fit, zb_fit0, zb_fit1, i_one_zero, i_w_in, z_tb0, z_tb1, z_tb2, z_tb3, z_tb4, z_tb5, z_tb6, z_tb7, z_tb8, z_tbl, z_tu0, z_tu1, z_tu2, z_i_62, z_i_63, z_i_86, z_i_88, z_l_Y, z_ui_62, z_ui_63, z_ui_86, z_ui_88, z_ul_Y, z_sz_Y, z_sw_Y, iI_nat, z_ix_t, z_at, Int.add_zero, Int.sub_zero, Int.zero_add, Int.mul_zero, ne_eq, Bool.false_eq_true, Bool.true_eq_false, reduceCtorEq, eq_self, and_true, true_and, and_false, false_and, and_self, not_true_eq_false, not_false_eq_true, decide_true, decide_false, ↓reduceIte, Int.reduceEq, Int.reduceNe, Int.reduceLT, Int.reduceLE, Int.reduceAdd, Int.reduceSub, Int.reduceMul, Int.reduceNeg, Nat.reduceAdd, Nat.reduceEqDiff, Nat.reduceBEq, ↓z_x_eq, z_g_t, z_bI_s, z_bL_s, z_bR_s, z_bV_s, Int.cast_ofNat_Int, beq_self_eq_true, Bool.and_true, Bool.true_and, Bool.and_self, Bool.or_true, Bool.true_or, Bool.false_and, Bool.and_false, Bool.false_or, Bool.or_false, Bool.not_false, Bool.not_true, if_true, if_false, ite_true, ite_false, z_up_eq, z_up_app, z_ro_eq, hX, ho, hi.2, e_M_work_395, a1, a3, a2, g1, g2, g3, p_mid]
    refine ⟨_, rfl, ?_, rfl⟩
    rw [e_s2]
    refine ⟨?_, r2⟩
    show ∀ k, 0 ≤ k → k < n - 2 → z_up s.2 87 _ 87 k = _
    rw [z_up_eq]
    exact e_ro_q r1 rfl (Or.inl (by omega))
  · have q3 := h4 (n - 1) (by omega) (by omega)
    have g3 := r1 (n - 1) (by omega) (by omega)
    rw [ho]
    simp -implicitDefEqProofs (disch := first | assumption | omega | rfl) only [z_lit0, z_lit1, z_lit2, z_litl, iI_add, iI_sub, iI_mul, iI_neg, iI_and, iI_or, iI_xor, iI_shl, iI_shr, iI_ushr, iI_div, iI_b, iI_c, iI_i2l, lI_l2i, lI_add, lI_sub, lI_mul, lI_neg, lI_div, lI_or, lI_and, lI_shl, lI_shr, nI_iI, lg_lt0, lg_gt0, lg_eq0, i_ne0', l_ne0', iI_lt, iI_le, iI_eq, lI_lt, lI_le, lI_eq, zb_0, zb_fit, zb_fit0, zb_fit1, i_one_zero, i_w_in, z_tb0, z_tb1, z_tb2, z_tb3, z_tb4, z_tb5, z_tb6, z_tb7, z_tb8, z_tbl, z_tu0, z_tu1, z_tu2, z_i_62, z_i_63, z_i_86, z_i_88, z_l_Y, z_ui_62, z_ui_63, z_ui_86, z_ui_88, z_ul_Y, z_sz_Y, z_sw_Y, iI_nat, z_ix_t, z_at, Int.add_zero, Int.sub_zero, Int.zero_add, Int.mul_zero, ne_eq, Bool.false_eq_true, Bool.true_eq_false, reduceCtorEq, eq_self, and_true, true_and, and_false, false_and, and_self, not_true_eq_false, not_false_eq_true, decide_true, decide_false, ↓reduceIte, Int.reduceEq, Int.reduceNe, Int.reduceLT, Int.reduceLE, Int.reduceAdd, Int.reduceSub, Int.reduceMul, Int.reduceNeg, Nat.reduceAdd, Nat.reduceEqDiff, Nat.reduceBEq, ↓z_x_eq, z_g_t, z_bI_s, z_bL_s, z_bR_s, z_bV_s, Int.cast_ofNat_Int, beq_self_eq_true, Bool.and_true, Bool.true_and, Bool.and_self, Bool.or_true, Bool.true_or, Bool.false_and, Bool.and_false, Bool.false_or, Bool.or_false, Bool.not_false, Bool.not_true, if_true, if_false, ite_true, ite_false, z_up_eq, z_up_app, z_ro_eq, hX, ho, hi.2, e_M_work_395, g3]
    refine ⟨_, rfl, ?_, rfl⟩
    rw [e_s3]
    refine ⟨?_, r2⟩
    show ∀ k, 0 ≤ k → k < n → z_up s.2 87 _ 87 k = _
    rw [z_up_eq]
    exact e_ro_q r1 rfl (Or.inl (by omega))
  · have q2 := h4 (n - 2) (by omega) (by omega)
    have q3 := h4 (n - 1) (by omega) (by omega)
    have g2 := r1 (n - 2) (by omega) (by omega)
    have g3 := r1 (n - 1) (by omega) (by omega)
    have a1 : n - 1 - 1 = n - 2 := by omega
    have a2 : n + -1 = n - 1 := by omega
    have t4 := fun σ => p_two d (o := 4) σ (by omega) q2 q3
    have t5 := fun σ => p_two d (o := 5) σ (by omega) q2 q3
    have t6 := fun σ => p_two d (o := 6) σ (by omega) q2 q3
    have t7 := fun σ => p_two d (o := 7) σ (by omega) q2 q3
    have t8 := fun σ => p_two d (o := 8) σ (by omega) q2 q3
    rcases ho with ho | ho | ho | ho | ho
    all_goals rw [ho]
    all_goals simp -implicitDefEqProofs (disch := first | assumption | omega | rfl) only [z_lit0, z_lit1, z_lit2, z_litl, iI_add, iI_sub, iI_mul, iI_neg, iI_and, iI_or, iI_xor, iI_shl, iI_shr, iI_ushr, iI_div, iI_b, iI_c, iI_i2l, lI_l2i, lI_add, lI_sub, lI_mul, lI_neg, lI_div, lI_or, lI_and, lI_shl, lI_shr, nI_iI, lg_lt0, lg_gt0, lg_eq0, i_ne0', l_ne0', iI_lt, iI_le, iI_eq, lI_lt, lI_le, lI_eq, zb_0, zb_fit, zb_fit0, zb_fit1, i_one_zero, i_w_in, z_tb0, z_tb1, z_tb2, z_tb3, z_tb4, z_tb5, z_tb6, z_tb7, z_tb8, z_tbl, z_tu0, z_tu1, z_tu2, z_i_62, z_i_63, z_i_86, z_i_88, z_l_Y, z_ui_62, z_ui_63, z_ui_86, z_ui_88, z_ul_Y, z_sz_Y, z_sw_Y, iI_nat, z_ix_t, z_at, Int.add_zero, Int.sub_zero, Int.zero_add, Int.mul_zero, ne_eq, Bool.false_eq_true, Bool.true_eq_false, reduceCtorEq, eq_self, and_true, true_and, and_false, false_and, and_self, not_true_eq_false, not_false_eq_true, decide_true, decide_false, ↓reduceIte, Int.reduceEq, Int.reduceNe, Int.reduceLT, Int.reduceLE, Int.reduceAdd, Int.reduceSub, Int.reduceMul, Int.reduceNeg, Nat.reduceAdd, Nat.reduceEqDiff, Nat.reduceBEq, ↓z_x_eq, z_g_t, z_bI_s, z_bL_s, z_bR_s, z_bV_s, Int.cast_ofNat_Int, beq_self_eq_true, Bool.and_true, Bool.true_and, Bool.and_self, Bool.or_true, Bool.true_or, Bool.false_and, Bool.and_false, Bool.false_or, Bool.or_false, Bool.not_false, Bool.not_true, if_true, if_false, ite_true, ite_false, z_up_eq, z_up_app, z_ro_eq, hX, ho, hi.2, e_M_work_395, a1, a2, g2, g3, t4, t5, t6, t7, t8]
    all_goals refine ⟨_, rfl, ?_, rfl⟩
    all_goals (first | rw [e_s4] | rw [e_s5] | rw [e_s6] | rw [e_s7] | rw [e_s8])
    all_goals refine ⟨?_, r2⟩
    all_goals show ∀ k, 0 ≤ k → k < n - 1 → z_up s.2 87 _ 87 k = _
    all_goals rw [z_up_eq]
    all_goals exact e_ro_q r1 rfl (Or.inl (by omega))
  · have q2 := h4 (n - 2) (by omega) (by omega)
    have q3 := h4 (n - 1) (by omega) (by omega)
    have g2 := r1 (n - 2) (by omega) (by omega)
    have g3 := r1 (n - 1) (by omega) (by omega)
    have a1 : n - 2 + 1 = n - 1 := by omega
    have a2 : n + -2 = n - 2 := by omega
    have t10 := fun σ => p_asked (d + 1) (o := 10) σ (by omega) q2 q3
    have t11 := fun σ => p_asked (d + 1) (o := 11) σ (by omega) q2 q3
    have t12 := fun σ => p_asked (d + 1) (o := 12) σ (by omega) q2 q3
    have t13 := fun σ => p_asked (d + 1) (o := 13) σ (by omega) q2 q3
    have t14 := fun σ => p_asked (d + 1) (o := 14) σ (by omega) q2 q3
    have t15 := fun σ => p_asked (d + 1) (o := 15) σ (by omega) q2 q3
    rcases ho with ho | ho | ho | ho | ho | ho
    all_goals rw [ho]
    all_goals simp -implicitDefEqProofs (disch := first | assumption | omega | rfl) only [z_lit0, z_lit1, z_lit2, z_litl, iI_add, iI_sub, iI_mul, iI_neg, iI_and, iI_or, iI_xor, iI_shl, iI_shr, iI_ushr, iI_div, iI_b, iI_c, iI_i2l, lI_l2i, lI_add, lI_sub, lI_mul, lI_neg, lI_div, lI_or, lI_and, lI_shl, lI_shr, nI_iI, lg_lt0, lg_gt0, lg_eq0, i_ne0', l_ne0', iI_lt, iI_le, iI_eq, lI_lt, lI_le, lI_eq, zb_0, zb_fit, zb_fit0, zb_fit1, i_one_zero, i_w_in, z_tb0, z_tb1, z_tb2, z_tb3, z_tb4, z_tb5, z_tb6, z_tb7, z_tb8, z_tbl, z_tu0, z_tu1, z_tu2, z_i_62, z_i_63, z_i_86, z_i_88, z_l_Y, z_ui_62, z_ui_63, z_ui_86, z_ui_88, z_ul_Y, z_sz_Y, z_sw_Y, iI_nat, z_ix_t, z_at, Int.add_zero, Int.sub_zero, Int.zero_add, Int.mul_zero, ne_eq, Bool.false_eq_true, Bool.true_eq_false, reduceCtorEq, eq_self, and_true, true_and, and_false, false_and, and_self, not_true_eq_false, not_false_eq_true, decide_true, decide_false, ↓reduceIte, Int.reduceEq, Int.reduceNe, Int.reduceLT, Int.reduceLE, Int.reduceAdd, Int.reduceSub, Int.reduceMul, Int.reduceNeg, Nat.reduceAdd, Nat.reduceEqDiff, Nat.reduceBEq, ↓z_x_eq, z_g_t, z_bI_s, z_bL_s, z_bR_s, z_bV_s, Int.cast_ofNat_Int, beq_self_eq_true, Bool.and_true, Bool.true_and, Bool.and_self, Bool.or_true, Bool.true_or, Bool.false_and, Bool.and_false, Bool.false_or, Bool.or_false, Bool.not_false, Bool.not_true, if_true, if_false, ite_true, ite_false, z_up_eq, z_up_app, z_ro_eq, hX, ho, hi.2, e_M_work_395, a1, a2, g2, g3, t10, t11, t12, t13, t14, t15, z_bv_88, i_and_zb]
    all_goals refine ⟨_, rfl, ?_, rfl⟩
    all_goals (first | rw [e_s10] | rw [e_s11] | rw [e_s12] | rw [e_s13] | rw [e_s14] | rw [e_s15])
    all_goals refine ⟨fun k a b => r1 k a (by have b' : k < n - 2 := b; omega), ?_⟩
    all_goals show ∀ k, 0 ≤ k → k < m + 1 → z_up s.1 88 _ 88 k = _
    all_goals rw [z_up_eq]
    all_goals exact e_ro_q r2 rfl (Or.inr ⟨Int.le_refl _, rfl⟩)
  · have g3 := r2 (m - 1) (by omega) (by omega)
    rw [ho]
    rcases h5 (m - 1) (by omega) (by omega) with q | q
    all_goals rw [q] at g3
    all_goals simp -implicitDefEqProofs (disch := first | assumption | omega | rfl) only [z_lit0, z_lit1, z_lit2, z_litl, iI_add, iI_sub, iI_mul, iI_neg, iI_and, iI_or, iI_xor, iI_shl, iI_shr, iI_ushr, iI_div, iI_b, iI_c, iI_i2l, lI_l2i, lI_add, lI_sub, lI_mul, lI_neg, lI_div, lI_or, lI_and, lI_shl, lI_shr, nI_iI, lg_lt0, lg_gt0, lg_eq0, i_ne0', l_ne0', iI_lt, iI_le, iI_eq, lI_lt, lI_le, lI_eq, zb_0, zb_fit, zb_fit0, zb_fit1, i_one_zero, i_w_in, z_tb0, z_tb1, z_tb2, z_tb3, z_tb4, z_tb5, z_tb6, z_tb7, z_tb8, z_tbl, z_tu0, z_tu1, z_tu2, z_i_62, z_i_63, z_i_86, z_i_88, z_l_Y, z_ui_62, z_ui_63, z_ui_86, z_ui_88, z_ul_Y, z_sz_Y, z_sw_Y, iI_nat, z_ix_t, z_at, Int.add_zero, Int.sub_zero, Int.zero_add, Int.mul_zero, ne_eq, Bool.false_eq_true, Bool.true_eq_false, reduceCtorEq, eq_self, and_true, true_and, and_false, false_and, and_self, not_true_eq_false, not_false_eq_true, decide_true, decide_false, ↓reduceIte, Int.reduceEq, Int.reduceNe, Int.reduceLT, Int.reduceLE, Int.reduceAdd, Int.reduceSub, Int.reduceMul, Int.reduceNeg, Nat.reduceAdd, Nat.reduceEqDiff, Nat.reduceBEq, ↓z_x_eq, z_g_t, z_bI_s, z_bL_s, z_bR_s, z_bV_s, Int.cast_ofNat_Int, beq_self_eq_true, Bool.and_true, Bool.true_and, Bool.and_self, Bool.or_true, Bool.true_or, Bool.false_and, Bool.and_false, Bool.false_or, Bool.or_false, Bool.not_false, Bool.not_true, if_true, if_false, ite_true, ite_false, z_up_eq, z_up_app, z_ro_eq, hX, ho, hi.2, e_M_work_395, g3, z_bv_88, i_and_11, i_and_01]
    all_goals refine ⟨_, rfl, ?_, rfl⟩
    all_goals rw [e_s20]
    all_goals refine ⟨r1, ?_⟩
    all_goals show ∀ k, 0 ≤ k → k < m → z_up s.1 88 _ 88 k = _
    all_goals rw [z_up_eq]
    all_goals exact e_ro_q r2 (by show _ = 1 - B (m - 1); omega) (Or.inl (by omega))
  · have g2 := r2 (m - 2) (by omega) (by omega)
    have g3 := r2 (m - 1) (by omega) (by omega)
    have a1 : m - 1 - 1 = m - 2 := by omega
    have a2 : m + -1 = m - 1 := by omega
    rcases ho with ho | ho
    all_goals rw [ho]
    all_goals rcases h5 (m - 2) (by omega) (by omega) with q | q
    all_goals rcases h5 (m - 1) (by omega) (by omega) with u | u
    all_goals rw [q] at g2
    all_goals rw [u] at g3
    all_goals simp -implicitDefEqProofs (disch := first | assumption | omega | rfl) only [z_lit0, z_lit1, z_lit2, z_litl, iI_add, iI_sub, iI_mul, iI_neg, iI_and, iI_or, iI_xor, iI_shl, iI_shr, iI_ushr, iI_div, iI_b, iI_c, iI_i2l, lI_l2i, lI_add, lI_sub, lI_mul, lI_neg, lI_div, lI_or, lI_and, lI_shl, lI_shr, nI_iI, lg_lt0, lg_gt0, lg_eq0, i_ne0', l_ne0', iI_lt, iI_le, iI_eq, lI_lt, lI_le, lI_eq, zb_0, zb_fit, zb_fit0, zb_fit1, i_one_zero, i_w_in, z_tb0, z_tb1, z_tb2, z_tb3, z_tb4, z_tb5, z_tb6, z_tb7, z_tb8, z_tbl, z_tu0, z_tu1, z_tu2, z_i_62, z_i_63, z_i_86, z_i_88, z_l_Y, z_ui_62, z_ui_63, z_ui_86, z_ui_88, z_ul_Y, z_sz_Y, z_sw_Y, iI_nat, z_ix_t, z_at, Int.add_zero, Int.sub_zero, Int.zero_add, Int.mul_zero, ne_eq, Bool.false_eq_true, Bool.true_eq_false, reduceCtorEq, eq_self, and_true, true_and, and_false, false_and, and_self, not_true_eq_false, not_false_eq_true, decide_true, decide_false, ↓reduceIte, Int.reduceEq, Int.reduceNe, Int.reduceLT, Int.reduceLE, Int.reduceAdd, Int.reduceSub, Int.reduceMul, Int.reduceNeg, Nat.reduceAdd, Nat.reduceEqDiff, Nat.reduceBEq, ↓z_x_eq, z_g_t, z_bI_s, z_bL_s, z_bR_s, z_bV_s, Int.cast_ofNat_Int, beq_self_eq_true, Bool.and_true, Bool.true_and, Bool.and_self, Bool.or_true, Bool.true_or, Bool.false_and, Bool.and_false, Bool.false_or, Bool.or_false, Bool.not_false, Bool.not_true, if_true, if_false, ite_true, ite_false, z_up_eq, z_up_app, z_ro_eq, hX, ho, hi.2, e_M_work_395, a1, a2, g2, g3, z_bv_88, i_and_11, i_and_01]
    all_goals refine ⟨_, rfl, ?_, rfl⟩
    all_goals (first | rw [e_s21] | rw [e_s22])
    all_goals refine ⟨r1, ?_⟩
    all_goals show ∀ k, 0 ≤ k → k < m - 1 → z_up s.1 88 _ 88 k = _
    all_goals rw [z_up_eq]
    all_goals exact e_ro_q r2 (by dsimp only; rw [q, u]; decide) (Or.inl (by omega))
theorem p_work_l (d : Nat) (T : ZT) (G : ZG) {al : Int → Bool} {N : Int → Int} {x c t nf mf : Int} (hx : 0 ≤ x ∧ x < 2800) (hc : 0 ≤ c ∧ c ≤ 2212) (ht : t ≤ 300) (hX : G 83 (x + 2) = t) (hN : ∀ k, al k = true → e_b (N k)) : ∀ (k : Nat) (i : Int) (e : ZE) (s : ZG × ZG), 0 ≤ i → i + k = t → (∀ k, al k = true → s.1 86 k = N k) → e_wf al (G 83) c nf mf k i e.1 e.2.2.1 → e_in e → e_rm e s → z_ok (z_w d_M_work (z_call (d + 2)) 38 [some (vr 80), none, none, some (vi (iI x)), some (vi (iI c)), some (vi (iI e.1)), some (vi (iI e.2.2.1)), some (vi (iI i)), none, none] [] (z_Y T G s)) (fun y τ => y = vi 0 ∧ ∃ s', τ = z_Y T G s' ∧ e_rm (e_run N (G 83) c k i e) s' ∧ (e_run N (G 83) c k i e).1 = nf ∧ (e_run N (G 83) c k i e).2.2.1 = mf ∧ e_in (e_run N (G 83) c k i e))
  | 0, i, e, s, h0, h, hs, hw, he, hr => by
    rw [e_M_work_38]
    have hf : (i < t) = False := eq_false (by omega)
    simp -implicitDefEqProofs (disch := first | assumption | omega | rfl) only [z_lit0, z_lit1, z_lit2, z_litl, iI_add, iI_sub, iI_mul, iI_neg, iI_and, iI_or, iI_xor, iI_shl, iI_shr, iI_ushr, iI_div, iI_b, iI_c, iI_i2l, lI_l2i, lI_add, lI_sub, lI_mul, lI_neg, lI_div, lI_or, lI_and, lI_shl, lI_shr, nI_iI, lg_lt0, lg_gt0, lg_eq0, i_ne0', l_ne0', iI_lt, iI_le, iI_eq, lI_lt, lI_le, lI_eq, zb_0, zb_fit, zb_fit0, zb_fit1, i_one_zero, i_w_in, z_tb0, z_tb1, z_tb2, z_tb3, z_tb4, z_tb5, z_tb6, z_tb7, z_tb8, z_tbl, z_tu0, z_tu1, z_tu2, z_i_62, z_i_63, z_i_86, z_i_88, z_l_Y, z_ui_62, z_ui_63, z_ui_86, z_ui_88, z_ul_Y, z_sz_Y, z_sw_Y, iI_nat, z_ix_t, z_at, Int.add_zero, Int.sub_zero, Int.zero_add, Int.mul_zero, ne_eq, Bool.false_eq_true, Bool.true_eq_false, reduceCtorEq, eq_self, and_true, true_and, and_false, false_and, and_self, not_true_eq_false, not_false_eq_true, decide_true, decide_false, ↓reduceIte, Int.reduceEq, Int.reduceNe, Int.reduceLT, Int.reduceLE, Int.reduceAdd, Int.reduceSub, Int.reduceMul, Int.reduceNeg, Nat.reduceAdd, Nat.reduceEqDiff, Nat.reduceBEq, ↓z_x_eq, z_g_t, z_bI_s, z_bL_s, z_bR_s, z_bV_s, Int.cast_ofNat_Int, beq_self_eq_true, Bool.and_true, Bool.true_and, Bool.and_self, Bool.or_true, Bool.true_or, Bool.false_and, Bool.and_false, Bool.false_or, Bool.or_false, Bool.not_false, Bool.not_true, if_true, if_false, ite_true, ite_false, z_up_eq, z_up_app, z_ro_eq, hX, hf]
    exact ok_ret ⟨rfl, s, rfl, hr, hw.1, hw.2, he⟩
  | k + 1, i, (n, V, m, B), s, h0, h, hs, hw, he, hr => by
    obtain ⟨w1, w2⟩ := hw
    obtain ⟨s', e1, r', k'⟩ := p_work_1 d T G s hx hc ⟨h0, by omega⟩ ht hX hN hs w1 he hr
    obtain ⟨i1, i2, i3⟩ := e_stp_in (N := N) hN w1 he
    show z_ok (z_w d_M_work (z_call (d + 2)) 38 [some (vr 80), none, none, some (vi (iI x)), some (vi (iI c)), some (vi (iI n)), some (vi (iI m)), some (vi (iI i)), none, none] [] (z_Y T G s)) _
    rw [e1]
    have ih := p_work_l d T G hx hc ht hX hN k (i + 1) (e_stp N (G 83 (c + 2 * i)) (G 83 (c + 2 * i + 1)) (n, V, m, B)) s' (by omega) (by omega) (fun k q => by rw [k']; exact hs k q) (by rw [i2, i3]; exact w2) i1 r'
    rw [i2, i3] at ih
    exact ih

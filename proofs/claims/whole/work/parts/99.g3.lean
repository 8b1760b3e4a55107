/-! THE PURE PART, 112: the law's calls, further (printed by gen/law99.py) -/
section
variable {S0 : ZG} {c : Int} {T : ZT} {G : ZG} {s : ZG × ZG}
theorem lw_28 {i : Int} {N : Nat} (h : z_I S0 c T G) (hc : c < 600) (hk : T.1 1 = (20, N)) (hi : 0 ≤ i ∧ i + 6 ≤ N) (hN : N ≤ 3072) (hx : ∀ k, i_in (G 1 k)) : lw_go S0 c T G s i 1036 := by
  have h98 := h.2.2.2.2.2.2.2.2.2.2.1.1
  have kT : ∀ G s, z_kd (z_Y T G s) 1 = 20 := fun G s => by show (T.1 1).1 = 20; rw [hk]
  have lT : ∀ G s, z_ln (z_Y T G s) 1 = N := fun G s => by show (T.1 1).2 = N; rw [hk]
  have x1 := hx (i + 1)
  by_cases q : G 1 (i + 1) = 0
  · have q' : (G 1 (i + 1) = 0) = True := eq_true q
    obtain ⟨v, σ1, T2, G2, s2, a1, a2, hI, hT, k1, l1, k80, i1⟩ := z_pr_go (e1 := 2) (e2 := 0) (mf := d_B_shift) (mg := d_M_shift) (t_shift 50 h hc false) h98 rfl rfl rfl rfl ⟨by decide, by decide⟩ rfl s
    rw [hk] at k1 l1 i1
    have i1 := i1 rfl
    rw [zb_f] at a1 a2
    refine ⟨T2, G2, s2, ?_, hI, hT⟩
    rw [e_L_law_1036]
    simp -implicitDefEqProofs (disch := first | assumption | omega | rfl | (simp only [z_up_eq, z_up_app, ↓reduceIte, Nat.reduceEqDiff]; omega)) only [z_lit0, z_lit1, z_lit2, z_litl, iI_add, iI_sub, iI_mul, iI_neg, iI_and, iI_or, iI_xor, iI_shl, iI_shr, iI_ushr, iI_div, iI_b, iI_c, iI_i2l, lI_l2i, lI_add, lI_sub, lI_mul, lI_neg, lI_div, lI_or, lI_and, lI_shl, lI_shr, nI_iI, lg_lt0, lg_gt0, lg_eq0, i_ne0', l_ne0', iI_lt, iI_le, iI_eq, lI_lt, lI_le, lI_eq, zb_0, zb_fit, zb_fit0, zb_fit1, i_one_zero, i_w_in, z_tb0, z_tb1, z_tb2, z_tb3, z_tb4, z_tb5, z_tb6, z_tb7, z_tb8, z_tbl, z_tu0, z_tu1, z_tu2, z_i_62, z_i_63, z_i_86, z_i_88, z_l_Y, z_ui_62, z_ui_63, z_ui_86, z_ui_88, z_ul_Y, z_sz_Y, z_sw_Y, iI_nat, z_ix_t, z_at, Int.add_zero, Int.sub_zero, Int.zero_add, Int.mul_zero, ne_eq, Bool.false_eq_true, Bool.true_eq_false, reduceCtorEq, eq_self, and_true, true_and, and_false, false_and, and_self, not_true_eq_false, not_false_eq_true, decide_true, decide_false, ↓reduceIte, Int.reduceEq, Int.reduceNe, Int.reduceLT, Int.reduceLE, Int.reduceAdd, Int.reduceSub, Int.reduceMul, Int.reduceNeg, Nat.reduceAdd, Nat.reduceEqDiff, Nat.reduceBEq, ↓z_x_eq, z_g_t, z_bI_s, z_bL_s, z_bR_s, z_bV_s, Int.cast_ofNat_Int, beq_self_eq_true, Bool.and_true, Bool.true_and, Bool.and_self, Bool.or_true, Bool.true_or, Bool.false_and, Bool.and_false, Bool.false_or, Bool.or_false, Bool.not_false, Bool.not_true, if_true, if_false, ite_true, ite_false, z_up_eq, z_up_app, z_ro_eq, kT, lT, a1, k1, l1, i1, k80, a2, q']
  · have q' : (G 1 (i + 1) = 0) = False := eq_false q
    obtain ⟨v, σ1, T2, G2, s2, a1, a2, hI, hT, k1, l1, k80, i1⟩ := z_pr_go (e1 := 2) (e2 := 0) (mf := d_B_shift) (mg := d_M_shift) (t_shift 50 h hc true) h98 rfl rfl rfl rfl ⟨by decide, by decide⟩ rfl s
    rw [hk] at k1 l1 i1
    have i1 := i1 rfl
    rw [zb_t] at a1 a2
    refine ⟨T2, G2, s2, ?_, hI, hT⟩
    rw [e_L_law_1036]
    simp -implicitDefEqProofs (disch := first | assumption | omega | rfl | (simp only [z_up_eq, z_up_app, ↓reduceIte, Nat.reduceEqDiff]; omega)) only [z_lit0, z_lit1, z_lit2, z_litl, iI_add, iI_sub, iI_mul, iI_neg, iI_and, iI_or, iI_xor, iI_shl, iI_shr, iI_ushr, iI_div, iI_b, iI_c, iI_i2l, lI_l2i, lI_add, lI_sub, lI_mul, lI_neg, lI_div, lI_or, lI_and, lI_shl, lI_shr, nI_iI, lg_lt0, lg_gt0, lg_eq0, i_ne0', l_ne0', iI_lt, iI_le, iI_eq, lI_lt, lI_le, lI_eq, zb_0, zb_fit, zb_fit0, zb_fit1, i_one_zero, i_w_in, z_tb0, z_tb1, z_tb2, z_tb3, z_tb4, z_tb5, z_tb6, z_tb7, z_tb8, z_tbl, z_tu0, z_tu1, z_tu2, z_i_62, z_i_63, z_i_86, z_i_88, z_l_Y, z_ui_62, z_ui_63, z_ui_86, z_ui_88, z_ul_Y, z_sz_Y, z_sw_Y, iI_nat, z_ix_t, z_at, Int.add_zero, Int.sub_zero, Int.zero_add, Int.mul_zero, ne_eq, Bool.false_eq_true, Bool.true_eq_false, reduceCtorEq, eq_self, and_true, true_and, and_false, false_and, and_self, not_true_eq_false, not_false_eq_true, decide_true, decide_false, ↓reduceIte, Int.reduceEq, Int.reduceNe, Int.reduceLT, Int.reduceLE, Int.reduceAdd, Int.reduceSub, Int.reduceMul, Int.reduceNeg, Nat.reduceAdd, Nat.reduceEqDiff, Nat.reduceBEq, ↓z_x_eq, z_g_t, z_bI_s, z_bL_s, z_bR_s, z_bV_s, Int.cast_ofNat_Int, beq_self_eq_true, Bool.and_true, Bool.true_and, Bool.and_self, Bool.or_true, Bool.true_or, Bool.false_and, Bool.and_false, Bool.false_or, Bool.or_false, Bool.not_false, Bool.not_true, if_true, if_false, ite_true, ite_false, z_up_eq, z_up_app, z_ro_eq, kT, lT, a1, k1, l1, i1, k80, a2, q']
theorem lw_29 {i : Int} {N : Nat} (h : z_I S0 c T G) (hc : c < 600) (hk : T.1 1 = (20, N)) (hi : 0 ≤ i ∧ i + 6 ≤ N) (hN : N ≤ 3072) (hx : ∀ k, i_in (G 1 k)) : lw_go S0 c T G s i 1075 := by
  have h98 := h.2.2.2.2.2.2.2.2.2.2.1.1
  have kT : ∀ G s, z_kd (z_Y T G s) 1 = 20 := fun G s => by show (T.1 1).1 = 20; rw [hk]
  have lT : ∀ G s, z_ln (z_Y T G s) 1 = N := fun G s => by show (T.1 1).2 = N; rw [hk]
  have x1 := hx (i + 1)
  obtain ⟨v, σ1, T2, G2, s2, a1, a2, hI, hT, k1, l1, k80, i1⟩ := z_pr_go (e1 := 0) (e2 := 2) (mf := d_B_inTime) (mg := d_M_inTime) (t_inTime 54 h hc (p := G 1 (i + 1)) (hx _)) h98 rfl rfl rfl rfl ⟨by decide, by decide⟩ rfl s
  rw [hk] at k1 l1 i1
  have i1 := i1 rfl
  refine ⟨T2, G2, s2, ?_, hI, hT⟩
  rw [e_L_law_1075]
  simp -implicitDefEqProofs (disch := first | assumption | omega | rfl | (simp only [z_up_eq, z_up_app, ↓reduceIte, Nat.reduceEqDiff]; omega)) only [z_lit0, z_lit1, z_lit2, z_litl, iI_add, iI_sub, iI_mul, iI_neg, iI_and, iI_or, iI_xor, iI_shl, iI_shr, iI_ushr, iI_div, iI_b, iI_c, iI_i2l, lI_l2i, lI_add, lI_sub, lI_mul, lI_neg, lI_div, lI_or, lI_and, lI_shl, lI_shr, nI_iI, lg_lt0, lg_gt0, lg_eq0, i_ne0', l_ne0', iI_lt, iI_le, iI_eq, lI_lt, lI_le, lI_eq, zb_0, zb_fit, zb_fit0, zb_fit1, i_one_zero, i_w_in, z_tb0, z_tb1, z_tb2, z_tb3, z_tb4, z_tb5, z_tb6, z_tb7, z_tb8, z_tbl, z_tu0, z_tu1, z_tu2, z_i_62, z_i_63, z_i_86, z_i_88, z_l_Y, z_ui_62, z_ui_63, z_ui_86, z_ui_88, z_ul_Y, z_sz_Y, z_sw_Y, iI_nat, z_ix_t, z_at, Int.add_zero, Int.sub_zero, Int.zero_add, Int.mul_zero, ne_eq, Bool.false_eq_true, Bool.true_eq_false, reduceCtorEq, eq_self, and_true, true_and, and_false, false_and, and_self, not_true_eq_false, not_false_eq_true, decide_true, decide_false, ↓reduceIte, Int.reduceEq, Int.reduceNe, Int.reduceLT, Int.reduceLE, Int.reduceAdd, Int.reduceSub, Int.reduceMul, Int.reduceNeg, Nat.reduceAdd, Nat.reduceEqDiff, Nat.reduceBEq, ↓z_x_eq, z_g_t, z_bI_s, z_bL_s, z_bR_s, z_bV_s, Int.cast_ofNat_Int, beq_self_eq_true, Bool.and_true, Bool.true_and, Bool.and_self, Bool.or_true, Bool.true_or, Bool.false_and, Bool.and_false, Bool.false_or, Bool.or_false, Bool.not_false, Bool.not_true, if_true, if_false, ite_true, ite_false, z_up_eq, z_up_app, z_ro_eq, kT, lT, a1, k1, l1, i1, k80, a2]
theorem lw_30 {i : Int} {N : Nat} (h : z_I S0 c T G) (hc : c < 600) (hk : T.1 1 = (20, N)) (hi : 0 ≤ i ∧ i + 6 ≤ N) (hN : N ≤ 3072) (hx : ∀ k, i_in (G 1 k)) : lw_go S0 c T G s i 1098 := by
  have h98 := h.2.2.2.2.2.2.2.2.2.2.1.1
  have kT : ∀ G s, z_kd (z_Y T G s) 1 = 20 := fun G s => by show (T.1 1).1 = 20; rw [hk]
  have lT : ∀ G s, z_ln (z_Y T G s) 1 = N := fun G s => by show (T.1 1).2 = N; rw [hk]
  obtain ⟨v, σ1, T2, G2, s2, a1, a2, hI, hT, k1, l1, k80, i1⟩ := z_pr_go (e1 := 0) (e2 := 3) (mf := d_B_choir) (mg := d_M_choir) (t_choir 53 h hc ) h98 rfl rfl rfl rfl ⟨by decide, by decide⟩ rfl s
  rw [hk] at k1 l1 i1
  have i1 := i1 rfl
  refine ⟨T2, G2, s2, ?_, hI, hT⟩
  rw [e_L_law_1098]
  simp -implicitDefEqProofs (disch := first | assumption | omega | rfl | (simp only [z_up_eq, z_up_app, ↓reduceIte, Nat.reduceEqDiff]; omega)) only [z_lit0, z_lit1, z_lit2, z_litl, iI_add, iI_sub, iI_mul, iI_neg, iI_and, iI_or, iI_xor, iI_shl, iI_shr, iI_ushr, iI_div, iI_b, iI_c, iI_i2l, lI_l2i, lI_add, lI_sub, lI_mul, lI_neg, lI_div, lI_or, lI_and, lI_shl, lI_shr, nI_iI, lg_lt0, lg_gt0, lg_eq0, i_ne0', l_ne0', iI_lt, iI_le, iI_eq, lI_lt, lI_le, lI_eq, zb_0, zb_fit, zb_fit0, zb_fit1, i_one_zero, i_w_in, z_tb0, z_tb1, z_tb2, z_tb3, z_tb4, z_tb5, z_tb6, z_tb7, z_tb8, z_tbl, z_tu0, z_tu1, z_tu2, z_i_62, z_i_63, z_i_86, z_i_88, z_l_Y, z_ui_62, z_ui_63, z_ui_86, z_ui_88, z_ul_Y, z_sz_Y, z_sw_Y, iI_nat, z_ix_t, z_at, Int.add_zero, Int.sub_zero, Int.zero_add, Int.mul_zero, ne_eq, Bool.false_eq_true, Bool.true_eq_false, reduceCtorEq, eq_self, and_true, true_and, and_false, false_and, and_self, not_true_eq_false, not_false_eq_true, decide_true, decide_false, ↓reduceIte, Int.reduceEq, Int.reduceNe, Int.reduceLT, Int.reduceLE, Int.reduceAdd, Int.reduceSub, Int.reduceMul, Int.reduceNeg, Nat.reduceAdd, Nat.reduceEqDiff, Nat.reduceBEq, ↓z_x_eq, z_g_t, z_bI_s, z_bL_s, z_bR_s, z_bV_s, Int.cast_ofNat_Int, beq_self_eq_true, Bool.and_true, Bool.true_and, Bool.and_self, Bool.or_true, Bool.true_or, Bool.false_and, Bool.and_false, Bool.false_or, Bool.or_false, Bool.not_false, Bool.not_true, if_true, if_false, ite_true, ite_false, z_up_eq, z_up_app, z_ro_eq, kT, lT, a1, k1, l1, i1, k80, a2]
theorem lw_31 {i : Int} {N : Nat} (h : z_I S0 c T G) (hc : c < 600) (hk : T.1 1 = (20, N)) (hi : 0 ≤ i ∧ i + 6 ≤ N) (hN : N ≤ 3072) (hx : ∀ k, i_in (G 1 k)) : lw_go S0 c T G s i 1111 := by
  have h98 := h.2.2.2.2.2.2.2.2.2.2.1.1
  have kT : ∀ G s, z_kd (z_Y T G s) 1 = 20 := fun G s => by show (T.1 1).1 = 20; rw [hk]
  have lT : ∀ G s, z_ln (z_Y T G s) 1 = N := fun G s => by show (T.1 1).2 = N; rw [hk]
  have x1 := hx (i + 1)
  have x2 := hx (i + 2)
  have x3 := hx (i + 3)
  by_cases q : G 1 (i + 3) = 0
  · have q' : (G 1 (i + 3) = 0) = True := eq_true q
    obtain ⟨v, σ1, T2, G2, s2, a1, a2, hI, hT, k1, l1, k80, i1⟩ := z_pr_gl (e1 := 1) (e2 := 0) (mf := d_B_comes) (mg := d_M_comes) (t_comes 53 h hc (p := G 1 (i + 1)) (w := G 1 (i + 2)) (hx _) (hx _) false) h98 rfl rfl rfl rfl rfl rfl s
    rw [hk] at k1 l1 i1
    have i1 := i1 rfl
    rw [zb_f] at a1 a2
    refine ⟨T2, G2, s2, ?_, hI, hT⟩
    rw [e_L_law_1111]
    simp -implicitDefEqProofs (disch := first | assumption | omega | rfl | (simp only [z_up_eq, z_up_app, ↓reduceIte, Nat.reduceEqDiff]; omega)) only [z_lit0, z_lit1, z_lit2, z_litl, iI_add, iI_sub, iI_mul, iI_neg, iI_and, iI_or, iI_xor, iI_shl, iI_shr, iI_ushr, iI_div, iI_b, iI_c, iI_i2l, lI_l2i, lI_add, lI_sub, lI_mul, lI_neg, lI_div, lI_or, lI_and, lI_shl, lI_shr, nI_iI, lg_lt0, lg_gt0, lg_eq0, i_ne0', l_ne0', iI_lt, iI_le, iI_eq, lI_lt, lI_le, lI_eq, zb_0, zb_fit, zb_fit0, zb_fit1, i_one_zero, i_w_in, z_tb0, z_tb1, z_tb2, z_tb3, z_tb4, z_tb5, z_tb6, z_tb7, z_tb8, z_tbl, z_tu0, z_tu1, z_tu2, z_i_62, z_i_63, z_i_86, z_i_88, z_l_Y, z_ui_62, z_ui_63, z_ui_86, z_ui_88, z_ul_Y, z_sz_Y, z_sw_Y, iI_nat, z_ix_t, z_at, Int.add_zero, Int.sub_zero, Int.zero_add, Int.mul_zero, ne_eq, Bool.false_eq_true, Bool.true_eq_false, reduceCtorEq, eq_self, and_true, true_and, and_false, false_and, and_self, not_true_eq_false, not_false_eq_true, decide_true, decide_false, ↓reduceIte, Int.reduceEq, Int.reduceNe, Int.reduceLT, Int.reduceLE, Int.reduceAdd, Int.reduceSub, Int.reduceMul, Int.reduceNeg, Nat.reduceAdd, Nat.reduceEqDiff, Nat.reduceBEq, ↓z_x_eq, z_g_t, z_bI_s, z_bL_s, z_bR_s, z_bV_s, Int.cast_ofNat_Int, beq_self_eq_true, Bool.and_true, Bool.true_and, Bool.and_self, Bool.or_true, Bool.true_or, Bool.false_and, Bool.and_false, Bool.false_or, Bool.or_false, Bool.not_false, Bool.not_true, if_true, if_false, ite_true, ite_false, z_up_eq, z_up_app, z_ro_eq, kT, lT, a1, k1, l1, i1, k80, a2, q']
  · have q' : (G 1 (i + 3) = 0) = False := eq_false q
    obtain ⟨v, σ1, T2, G2, s2, a1, a2, hI, hT, k1, l1, k80, i1⟩ := z_pr_gl (e1 := 1) (e2 := 0) (mf := d_B_comes) (mg := d_M_comes) (t_comes 53 h hc (p := G 1 (i + 1)) (w := G 1 (i + 2)) (hx _) (hx _) true) h98 rfl rfl rfl rfl rfl rfl s
    rw [hk] at k1 l1 i1
    have i1 := i1 rfl
    rw [zb_t] at a1 a2
    refine ⟨T2, G2, s2, ?_, hI, hT⟩
    rw [e_L_law_1111]
    simp -implicitDefEqProofs (disch := first | assumption | omega | rfl | (simp only [z_up_eq, z_up_app, ↓reduceIte, Nat.reduceEqDiff]; omega)) only [z_lit0, z_lit1, z_lit2, z_litl, iI_add, iI_sub, iI_mul, iI_neg, iI_and, iI_or, iI_xor, iI_shl, iI_shr, iI_ushr, iI_div, iI_b, iI_c, iI_i2l, lI_l2i, lI_add, lI_sub, lI_mul, lI_neg, lI_div, lI_or, lI_and, lI_shl, lI_shr, nI_iI, lg_lt0, lg_gt0, lg_eq0, i_ne0', l_ne0', iI_lt, iI_le, iI_eq, lI_lt, lI_le, lI_eq, zb_0, zb_fit, zb_fit0, zb_fit1, i_one_zero, i_w_in, z_tb0, z_tb1, z_tb2, z_tb3, z_tb4, z_tb5, z_tb6, z_tb7, z_tb8, z_tbl, z_tu0, z_tu1, z_tu2, z_i_62, z_i_63, z_i_86, z_i_88, z_l_Y, z_ui_62, z_ui_63, z_ui_86, z_ui_88, z_ul_Y, z_sz_Y, z_sw_Y, iI_nat, z_ix_t, z_at, Int.add_zero, Int.sub_zero, Int.zero_add, Int.mul_zero, ne_eq, Bool.false_eq_true, Bool.true_eq_false, reduceCtorEq, eq_self, and_true, true_and, and_false, false_and, and_self, not_true_eq_false, not_false_eq_true, decide_true, decide_false, ↓reduceIte, Int.reduceEq, Int.reduceNe, Int.reduceLT, Int.reduceLE, Int.reduceAdd, Int.reduceSub, Int.reduceMul, Int.reduceNeg, Nat.reduceAdd, Nat.reduceEqDiff, Nat.reduceBEq, ↓z_x_eq, z_g_t, z_bI_s, z_bL_s, z_bR_s, z_bV_s, Int.cast_ofNat_Int, beq_self_eq_true, Bool.and_true, Bool.true_and, Bool.and_self, Bool.or_true, Bool.true_or, Bool.false_and, Bool.and_false, Bool.false_or, Bool.or_false, Bool.not_false, Bool.not_true, if_true, if_false, ite_true, ite_false, z_up_eq, z_up_app, z_ro_eq, kT, lT, a1, k1, l1, i1, k80, a2, q']
theorem lw_32 {i : Int} {N : Nat} (h : z_I S0 c T G) (hc : c < 600) (hk : T.1 1 = (20, N)) (hi : 0 ≤ i ∧ i + 6 ≤ N) (hN : N ≤ 3072) (hx : ∀ k, i_in (G 1 k)) : lw_go S0 c T G s i 1171 := by
  have h98 := h.2.2.2.2.2.2.2.2.2.2.1.1
  have kT : ∀ G s, z_kd (z_Y T G s) 1 = 20 := fun G s => by show (T.1 1).1 = 20; rw [hk]
  have lT : ∀ G s, z_ln (z_Y T G s) 1 = N := fun G s => by show (T.1 1).2 = N; rw [hk]
  have x1 := hx (i + 1)
  have x2 := hx (i + 2)
  obtain ⟨v, σ1, T2, G2, s2, a1, a2, hI, hT, k1, l1, k80, i1⟩ := z_pr_go (e1 := 1) (e2 := 0) (mf := d_B_needed) (mg := d_M_needed) (t_needed 52 h hc (N := G 1 (i + 1)) (w := G 1 (i + 2)) (hx _) (hx _)) h98 rfl rfl rfl rfl ⟨by decide, by decide⟩ rfl s
  rw [hk] at k1 l1 i1
  have i1 := i1 rfl
  refine ⟨T2, G2, s2, ?_, hI, hT⟩
  rw [e_L_law_1171]
  simp -implicitDefEqProofs (disch := first | assumption | omega | rfl | (simp only [z_up_eq, z_up_app, ↓reduceIte, Nat.reduceEqDiff]; omega)) only [z_lit0, z_lit1, z_lit2, z_litl, iI_add, iI_sub, iI_mul, iI_neg, iI_and, iI_or, iI_xor, iI_shl, iI_shr, iI_ushr, iI_div, iI_b, iI_c, iI_i2l, lI_l2i, lI_add, lI_sub, lI_mul, lI_neg, lI_div, lI_or, lI_and, lI_shl, lI_shr, nI_iI, lg_lt0, lg_gt0, lg_eq0, i_ne0', l_ne0', iI_lt, iI_le, iI_eq, lI_lt, lI_le, lI_eq, zb_0, zb_fit, zb_fit0, zb_fit1, i_one_zero, i_w_in, z_tb0, z_tb1, z_tb2, z_tb3, z_tb4, z_tb5, z_tb6, z_tb7, z_tb8, z_tbl, z_tu0, z_tu1, z_tu2, z_i_62, z_i_63, z_i_86, z_i_88, z_l_Y, z_ui_62, z_ui_63, z_ui_86, z_ui_88, z_ul_Y, z_sz_Y, z_sw_Y, iI_nat, z_ix_t, z_at, Int.add_zero, Int.sub_zero, Int.zero_add, Int.mul_zero, ne_eq, Bool.false_eq_true, Bool.true_eq_false, reduceCtorEq, eq_self, and_true, true_and, and_false, false_and, and_self, not_true_eq_false, not_false_eq_true, decide_true, decide_false, ↓reduceIte, Int.reduceEq, Int.reduceNe, Int.reduceLT, Int.reduceLE, Int.reduceAdd, Int.reduceSub, Int.reduceMul, Int.reduceNeg, Nat.reduceAdd, Nat.reduceEqDiff, Nat.reduceBEq, ↓z_x_eq, z_g_t, z_bI_s, z_bL_s, z_bR_s, z_bV_s, Int.cast_ofNat_Int, beq_self_eq_true, Bool.and_true, Bool.true_and, Bool.and_self, Bool.or_true, Bool.true_or, Bool.false_and, Bool.and_false, Bool.false_or, Bool.or_false, Bool.not_false, Bool.not_true, if_true, if_false, ite_true, ite_false, z_up_eq, z_up_app, z_ro_eq, kT, lT, a1, k1, l1, i1, k80, a2]
theorem lw_33 {i : Int} {N : Nat} (h : z_I S0 c T G) (hc : c < 600) (hk : T.1 1 = (20, N)) (hi : 0 ≤ i ∧ i + 6 ≤ N) (hN : N ≤ 3072) (hx : ∀ k, i_in (G 1 k)) : lw_go S0 c T G s i 1204 := by
  have h98 := h.2.2.2.2.2.2.2.2.2.2.1.1
  have kT : ∀ G s, z_kd (z_Y T G s) 1 = 20 := fun G s => by show (T.1 1).1 = 20; rw [hk]
  have lT : ∀ G s, z_ln (z_Y T G s) 1 = N := fun G s => by show (T.1 1).2 = N; rw [hk]
  have x1 := hx (i + 1)
  have x2 := hx (i + 2)
  have x3 := hx (i + 3)
  have x4 := hx (i + 4)
  by_cases q : G 1 (i + 4) = 0
  · have q' : (G 1 (i + 4) = 0) = True := eq_true q
    obtain ⟨v, σ1, T2, G2, s2, a1, a2, hI, hT, k1, l1, k80, i1⟩ := z_pr_go (e1 := 2) (e2 := 0) (mf := d_B_duel) (mg := d_M_duel) (t_duel 50 h hc (b1 := G 1 (i + 1)) (b2 := G 1 (i + 2)) (no := G 1 (i + 3)) (y := false) (hx _) (hx _) (hx _)) h98 rfl rfl rfl rfl ⟨by decide, by decide⟩ rfl s
    rw [hk] at k1 l1 i1
    have i1 := i1 rfl
    rw [zb_f] at a1 a2
    refine ⟨T2, G2, s2, ?_, hI, hT⟩
    rw [e_L_law_1204]
    simp -implicitDefEqProofs (disch := first | assumption | omega | rfl | (simp only [z_up_eq, z_up_app, ↓reduceIte, Nat.reduceEqDiff]; omega)) only [z_lit0, z_lit1, z_lit2, z_litl, iI_add, iI_sub, iI_mul, iI_neg, iI_and, iI_or, iI_xor, iI_shl, iI_shr, iI_ushr, iI_div, iI_b, iI_c, iI_i2l, lI_l2i, lI_add, lI_sub, lI_mul, lI_neg, lI_div, lI_or, lI_and, lI_shl, lI_shr, nI_iI, lg_lt0, lg_gt0, lg_eq0, i_ne0', l_ne0', iI_lt, iI_le, iI_eq, lI_lt, lI_le, lI_eq, zb_0, zb_fit, zb_fit0, zb_fit1, i_one_zero, i_w_in, z_tb0, z_tb1, z_tb2, z_tb3, z_tb4, z_tb5, z_tb6, z_tb7, z_tb8, z_tbl, z_tu0, z_tu1, z_tu2, z_i_62, z_i_63, z_i_86, z_i_88, z_l_Y, z_ui_62, z_ui_63, z_ui_86, z_ui_88, z_ul_Y, z_sz_Y, z_sw_Y, iI_nat, z_ix_t, z_at, Int.add_zero, Int.sub_zero, Int.zero_add, Int.mul_zero, ne_eq, Bool.false_eq_true, Bool.true_eq_false, reduceCtorEq, eq_self, and_true, true_and, and_false, false_and, and_self, not_true_eq_false, not_false_eq_true, decide_true, decide_false, ↓reduceIte, Int.reduceEq, Int.reduceNe, Int.reduceLT, Int.reduceLE, Int.reduceAdd, Int.reduceSub, Int.reduceMul, Int.reduceNeg, Nat.reduceAdd, Nat.reduceEqDiff, Nat.reduceBEq, ↓z_x_eq, z_g_t, z_bI_s, z_bL_s, z_bR_s, z_bV_s, Int.cast_ofNat_Int, beq_self_eq_true, Bool.and_true, Bool.true_and, Bool.and_self, Bool.or_true, Bool.true_or, Bool.false_and, Bool.and_false, Bool.false_or, Bool.or_false, Bool.not_false, Bool.not_true, if_true, if_false, ite_true, ite_false, z_up_eq, z_up_app, z_ro_eq, kT, lT, a1, k1, l1, i1, k80, a2, q']
  · have q' : (G 1 (i + 4) = 0) = False := eq_false q
    obtain ⟨v, σ1, T2, G2, s2, a1, a2, hI, hT, k1, l1, k80, i1⟩ := z_pr_go (e1 := 2) (e2 := 0) (mf := d_B_duel) (mg := d_M_duel) (t_duel 50 h hc (b1 := G 1 (i + 1)) (b2 := G 1 (i + 2)) (no := G 1 (i + 3)) (y := true) (hx _) (hx _) (hx _)) h98 rfl rfl rfl rfl ⟨by decide, by decide⟩ rfl s
    rw [hk] at k1 l1 i1
    have i1 := i1 rfl
    rw [zb_t] at a1 a2
    refine ⟨T2, G2, s2, ?_, hI, hT⟩
    rw [e_L_law_1204]
    simp -implicitDefEqProofs (disch := first | assumption | omega | rfl | (simp only [z_up_eq, z_up_app, ↓reduceIte, Nat.reduceEqDiff]; omega)) only [z_lit0, z_lit1, z_lit2, z_litl, iI_add, iI_sub, iI_mul, iI_neg, iI_and, iI_or, iI_xor, iI_shl, iI_shr, iI_ushr, iI_div, iI_b, iI_c, iI_i2l, lI_l2i, lI_add, lI_sub, lI_mul, lI_neg, lI_div, lI_or, lI_and, lI_shl, lI_shr, nI_iI, lg_lt0, lg_gt0, lg_eq0, i_ne0', l_ne0', iI_lt, iI_le, iI_eq, lI_lt, lI_le, lI_eq, zb_0, zb_fit, zb_fit0, zb_fit1, i_one_zero, i_w_in, z_tb0, z_tb1, z_tb2, z_tb3, z_tb4, z_tb5, z_tb6, z_tb7, z_tb8, z_tbl, z_tu0, z_tu1, z_tu2, z_i_62, z_i_63, z_i_86, z_i_88, z_l_Y, z_ui_62, z_ui_63, z_ui_86, z_ui_88, z_ul_Y, z_sz_Y, z_sw_Y, iI_nat, z_ix_t, z_at, Int.add_zero, Int.sub_zero, Int.zero_add, Int.mul_zero, ne_eq, Bool.false_eq_true, Bool.true_eq_false, reduceCtorEq, eq_self, and_true, true_and, and_false, false_and, and_self, not_true_eq_false, not_false_eq_true, decide_true, decide_false, ↓reduceIte, Int.reduceEq, Int.reduceNe, Int.reduceLT, Int.reduceLE, Int.reduceAdd, Int.reduceSub, Int.reduceMul, Int.reduceNeg, Nat.reduceAdd, Nat.reduceEqDiff, Nat.reduceBEq, ↓z_x_eq, z_g_t, z_bI_s, z_bL_s, z_bR_s, z_bV_s, Int.cast_ofNat_Int, beq_self_eq_true, Bool.and_true, Bool.true_and, Bool.and_self, Bool.or_true, Bool.true_or, Bool.false_and, Bool.and_false, Bool.false_or, Bool.or_false, Bool.not_false, Bool.not_true, if_true, if_false, ite_true, ite_false, z_up_eq, z_up_app, z_ro_eq, kT, lT, a1, k1, l1, i1, k80, a2, q']
theorem lw_34 {i : Int} {N : Nat} (h : z_I S0 c T G) (hc : c < 600) (hk : T.1 1 = (20, N)) (hi : 0 ≤ i ∧ i + 6 ≤ N) (hN : N ≤ 3072) (hx : ∀ k, i_in (G 1 k)) : lw_go S0 c T G s i 1273 := by
  have h98 := h.2.2.2.2.2.2.2.2.2.2.1.1
  have kT : ∀ G s, z_kd (z_Y T G s) 1 = 20 := fun G s => by show (T.1 1).1 = 20; rw [hk]
  have lT : ∀ G s, z_ln (z_Y T G s) 1 = N := fun G s => by show (T.1 1).2 = N; rw [hk]
  have x1 := hx (i + 1)
  have x2 := hx (i + 2)
  obtain ⟨v, σ1, T2, G2, s2, a1, a2, hI, hT, k1, l1, k80, i1⟩ := z_pr_go (e1 := 1) (e2 := 0) (mf := d_B_beside) (mg := d_M_beside) (t_beside 57 h hc (p := G 1 (i + 1)) (w := G 1 (i + 2)) (hx _) (hx _)) h98 rfl rfl rfl rfl ⟨by decide, by decide⟩ rfl s
  rw [hk] at k1 l1 i1
  have i1 := i1 rfl
  refine ⟨T2, G2, s2, ?_, hI, hT⟩
  rw [e_L_law_1273]
  simp -implicitDefEqProofs (disch := first | assumption | omega | rfl | (simp only [z_up_eq, z_up_app, ↓reduceIte, Nat.reduceEqDiff]; omega)) only [z_lit0, z_lit1, z_lit2, z_litl, iI_add, iI_sub, iI_mul, iI_neg, iI_and, iI_or, iI_xor, iI_shl, iI_shr, iI_ushr, iI_div, iI_b, iI_c, iI_i2l, lI_l2i, lI_add, lI_sub, lI_mul, lI_neg, lI_div, lI_or, lI_and, lI_shl, lI_shr, nI_iI, lg_lt0, lg_gt0, lg_eq0, i_ne0', l_ne0', iI_lt, iI_le, iI_eq, lI_lt, lI_le, lI_eq, zb_0, zb_fit, zb_fit0, zb_fit1, i_one_zero, i_w_in, z_tb0, z_tb1, z_tb2, z_tb3, z_tb4, z_tb5, z_tb6, z_tb7, z_tb8, z_tbl, z_tu0, z_tu1, z_tu2, z_i_62, z_i_63, z_i_86, z_i_88, z_l_Y, z_ui_62, z_ui_63, z_ui_86, z_ui_88, z_ul_Y, z_sz_Y, z_sw_Y, iI_nat, z_ix_t, z_at, Int.add_zero, Int.sub_zero, Int.zero_add, Int.mul_zero, ne_eq, Bool.false_eq_true, Bool.true_eq_false, reduceCtorEq, eq_self, and_true, true_and, and_false, false_and, and_self, not_true_eq_false, not_false_eq_true, decide_true, decide_false, ↓reduceIte, Int.reduceEq, Int.reduceNe, Int.reduceLT, Int.reduceLE, Int.reduceAdd, Int.reduceSub, Int.reduceMul, Int.reduceNeg, Nat.reduceAdd, Nat.reduceEqDiff, Nat.reduceBEq, ↓z_x_eq, z_g_t, z_bI_s, z_bL_s, z_bR_s, z_bV_s, Int.cast_ofNat_Int, beq_self_eq_true, Bool.and_true, Bool.true_and, Bool.and_self, Bool.or_true, Bool.true_or, Bool.false_and, Bool.and_false, Bool.false_or, Bool.or_false, Bool.not_false, Bool.not_true, if_true, if_false, ite_true, ite_false, z_up_eq, z_up_app, z_ro_eq, kT, lT, a1, k1, l1, i1, k80, a2]
theorem lw_35 {i : Int} {N : Nat} (h : z_I S0 c T G) (hc : c < 600) (hk : T.1 1 = (20, N)) (hi : 0 ≤ i ∧ i + 6 ≤ N) (hN : N ≤ 3072) (hx : ∀ k, i_in (G 1 k)) : lw_go S0 c T G s i 1306 := by
  have h98 := h.2.2.2.2.2.2.2.2.2.2.1.1
  have kT : ∀ G s, z_kd (z_Y T G s) 1 = 20 := fun G s => by show (T.1 1).1 = 20; rw [hk]
  have lT : ∀ G s, z_ln (z_Y T G s) 1 = N := fun G s => by show (T.1 1).2 = N; rw [hk]
  have x1 := hx (i + 1)
  have x2 := hx (i + 2)
  have x3 := hx (i + 3)
  obtain ⟨v, σ1, T2, G2, s2, a1, a2, hI, hT, k1, l1, k80, i1⟩ := z_pr_go (e1 := 0) (e2 := 1) (mf := d_B_chairs) (mg := d_M_chairs) (t_chairs 56 h hc (x := G 1 (i + 1)) (p := G 1 (i + 2)) (st := G 1 (i + 3)) (hx _) (hx _) (hx _)) h98 rfl rfl rfl rfl ⟨by decide, by decide⟩ rfl s
  rw [hk] at k1 l1 i1
  have i1 := i1 rfl
  refine ⟨T2, G2, s2, ?_, hI, hT⟩
  rw [e_L_law_1306]
  simp -implicitDefEqProofs (disch := first | assumption | omega | rfl | (simp only [z_up_eq, z_up_app, ↓reduceIte, Nat.reduceEqDiff]; omega)) only [z_lit0, z_lit1, z_lit2, z_litl, iI_add, iI_sub, iI_mul, iI_neg, iI_and, iI_or, iI_xor, iI_shl, iI_shr, iI_ushr, iI_div, iI_b, iI_c, iI_i2l, lI_l2i, lI_add, lI_sub, lI_mul, lI_neg, lI_div, lI_or, lI_and, lI_shl, lI_shr, nI_iI, lg_lt0, lg_gt0, lg_eq0, i_ne0', l_ne0', iI_lt, iI_le, iI_eq, lI_lt, lI_le, lI_eq, zb_0, zb_fit, zb_fit0, zb_fit1, i_one_zero, i_w_in, z_tb0, z_tb1, z_tb2, z_tb3, z_tb4, z_tb5, z_tb6, z_tb7, z_tb8, z_tbl, z_tu0, z_tu1, z_tu2, z_i_62, z_i_63, z_i_86, z_i_88, z_l_Y, z_ui_62, z_ui_63, z_ui_86, z_ui_88, z_ul_Y, z_sz_Y, z_sw_Y, iI_nat, z_ix_t, z_at, Int.add_zero, Int.sub_zero, Int.zero_add, Int.mul_zero, ne_eq, Bool.false_eq_true, Bool.true_eq_false, reduceCtorEq, eq_self, and_true, true_and, and_false, false_and, and_self, not_true_eq_false, not_false_eq_true, decide_true, decide_false, ↓reduceIte, Int.reduceEq, Int.reduceNe, Int.reduceLT, Int.reduceLE, Int.reduceAdd, Int.reduceSub, Int.reduceMul, Int.reduceNeg, Nat.reduceAdd, Nat.reduceEqDiff, Nat.reduceBEq, ↓z_x_eq, z_g_t, z_bI_s, z_bL_s, z_bR_s, z_bV_s, Int.cast_ofNat_Int, beq_self_eq_true, Bool.and_true, Bool.true_and, Bool.and_self, Bool.or_true, Bool.true_or, Bool.false_and, Bool.and_false, Bool.false_or, Bool.or_false, Bool.not_false, Bool.not_true, if_true, if_false, ite_true, ite_false, z_up_eq, z_up_app, z_ro_eq, kT, lT, a1, k1, l1, i1, k80, a2]
theorem lw_36 {i : Int} {N : Nat} (h : z_I S0 c T G) (hc : c < 600) (hk : T.1 1 = (20, N)) (hi : 0 ≤ i ∧ i + 6 ≤ N) (hN : N ≤ 3072) (hx : ∀ k, i_in (G 1 k)) : lw_go S0 c T G s i 1349 := by
  have h98 := h.2.2.2.2.2.2.2.2.2.2.1.1
  have kT : ∀ G s, z_kd (z_Y T G s) 1 = 20 := fun G s => by show (T.1 1).1 = 20; rw [hk]
  have lT : ∀ G s, z_ln (z_Y T G s) 1 = N := fun G s => by show (T.1 1).2 = N; rw [hk]
  have x1 := hx (i + 1)
  obtain ⟨v, σ1, T2, G2, s2, a1, a2, hI, hT, k1, l1, k80, i1⟩ := z_pr_go (e1 := 0) (e2 := 0) (mf := d_B_whoseLaw) (mg := d_M_whoseLaw) (t_whoseLaw 52 h hc (x := G 1 (i + 1)) (hx _)) h98 rfl rfl rfl rfl ⟨by decide, by decide⟩ rfl s
  rw [hk] at k1 l1 i1
  have i1 := i1 rfl
  refine ⟨T2, G2, s2, ?_, hI, hT⟩
  rw [e_L_law_1349]
  simp -implicitDefEqProofs (disch := first | assumption | omega | rfl | (simp only [z_up_eq, z_up_app, ↓reduceIte, Nat.reduceEqDiff]; omega)) only [z_lit0, z_lit1, z_lit2, z_litl, iI_add, iI_sub, iI_mul, iI_neg, iI_and, iI_or, iI_xor, iI_shl, iI_shr, iI_ushr, iI_div, iI_b, iI_c, iI_i2l, lI_l2i, lI_add, lI_sub, lI_mul, lI_neg, lI_div, lI_or, lI_and, lI_shl, lI_shr, nI_iI, lg_lt0, lg_gt0, lg_eq0, i_ne0', l_ne0', iI_lt, iI_le, iI_eq, lI_lt, lI_le, lI_eq, zb_0, zb_fit, zb_fit0, zb_fit1, i_one_zero, i_w_in, z_tb0, z_tb1, z_tb2, z_tb3, z_tb4, z_tb5, z_tb6, z_tb7, z_tb8, z_tbl, z_tu0, z_tu1, z_tu2, z_i_62, z_i_63, z_i_86, z_i_88, z_l_Y, z_ui_62, z_ui_63, z_ui_86, z_ui_88, z_ul_Y, z_sz_Y, z_sw_Y, iI_nat, z_ix_t, z_at, Int.add_zero, Int.sub_zero, Int.zero_add, Int.mul_zero, ne_eq, Bool.false_eq_true, Bool.true_eq_false, reduceCtorEq, eq_self, and_true, true_and, and_false, false_and, and_self, not_true_eq_false, not_false_eq_true, decide_true, decide_false, ↓reduceIte, Int.reduceEq, Int.reduceNe, Int.reduceLT, Int.reduceLE, Int.reduceAdd, Int.reduceSub, Int.reduceMul, Int.reduceNeg, Nat.reduceAdd, Nat.reduceEqDiff, Nat.reduceBEq, ↓z_x_eq, z_g_t, z_bI_s, z_bL_s, z_bR_s, z_bV_s, Int.cast_ofNat_Int, beq_self_eq_true, Bool.and_true, Bool.true_and, Bool.and_self, Bool.or_true, Bool.true_or, Bool.false_and, Bool.and_false, Bool.false_or, Bool.or_false, Bool.not_false, Bool.not_true, if_true, if_false, ite_true, ite_false, z_up_eq, z_up_app, z_ro_eq, kT, lT, a1, k1, l1, i1, k80, a2]
theorem lw_37 {i : Int} {N : Nat} (h : z_I S0 c T G) (hc : c < 600) (hk : T.1 1 = (20, N)) (hi : 0 ≤ i ∧ i + 6 ≤ N) (hN : N ≤ 3072) (hx : ∀ k, i_in (G 1 k)) : lw_go S0 c T G s i 1372 := by
  have h98 := h.2.2.2.2.2.2.2.2.2.2.1.1
  have kT : ∀ G s, z_kd (z_Y T G s) 1 = 20 := fun G s => by show (T.1 1).1 = 20; rw [hk]
  have lT : ∀ G s, z_ln (z_Y T G s) 1 = N := fun G s => by show (T.1 1).2 = N; rw [hk]
  have x1 := hx (i + 1)
  have x2 := hx (i + 2)
  have x3 := hx (i + 3)
  obtain ⟨v, σ1, T2, G2, s2, a1, a2, hI, hT, k1, l1, k80, i1⟩ := z_pr_go (e1 := 1) (e2 := 0) (mf := d_B_seen) (mg := d_M_seen) (t_seen 57 h hc (p := G 1 (i + 1)) (b := G 1 (i + 2)) (w := G 1 (i + 3)) (hx _) (hx _) (hx _)) h98 rfl rfl rfl rfl ⟨by decide, by decide⟩ rfl s
  rw [hk] at k1 l1 i1
  have i1 := i1 rfl
  refine ⟨T2, G2, s2, ?_, hI, hT⟩
  rw [e_L_law_1372]
  simp -implicitDefEqProofs (disch := first | assumption | omega | rfl | (simp only [z_up_eq, z_up_app, ↓reduceIte, Nat.reduceEqDiff]; omega)) only [z_lit0, z_lit1, z_lit2, z_litl, iI_add, iI_sub, iI_mul, iI_neg, iI_and, iI_or, iI_xor, iI_shl, iI_shr, iI_ushr, iI_div, iI_b, iI_c, iI_i2l, lI_l2i, lI_add, lI_sub, lI_mul, lI_neg, lI_div, lI_or, lI_and, lI_shl, lI_shr, nI_iI, lg_lt0, lg_gt0, lg_eq0, i_ne0', l_ne0', iI_lt, iI_le, iI_eq, lI_lt, lI_le, lI_eq, zb_0, zb_fit, zb_fit0, zb_fit1, i_one_zero, i_w_in, z_tb0, z_tb1, z_tb2, z_tb3, z_tb4, z_tb5, z_tb6, z_tb7, z_tb8, z_tbl, z_tu0, z_tu1, z_tu2, z_i_62, z_i_63, z_i_86, z_i_88, z_l_Y, z_ui_62, z_ui_63, z_ui_86, z_ui_88, z_ul_Y, z_sz_Y, z_sw_Y, iI_nat, z_ix_t, z_at, Int.add_zero, Int.sub_zero, Int.zero_add, Int.mul_zero, ne_eq, Bool.false_eq_true, Bool.true_eq_false, reduceCtorEq, eq_self, and_true, true_and, and_false, false_and, and_self, not_true_eq_false, not_false_eq_true, decide_true, decide_false, ↓reduceIte, Int.reduceEq, Int.reduceNe, Int.reduceLT, Int.reduceLE, Int.reduceAdd, Int.reduceSub, Int.reduceMul, Int.reduceNeg, Nat.reduceAdd, Nat.reduceEqDiff, Nat.reduceBEq, ↓z_x_eq, z_g_t, z_bI_s, z_bL_s, z_bR_s, z_bV_s, Int.cast_ofNat_Int, beq_self_eq_true, Bool.and_true, Bool.true_and, Bool.and_self, Bool.or_true, Bool.true_or, Bool.false_and, Bool.and_false, Bool.false_or, Bool.or_false, Bool.not_false, Bool.not_true, if_true, if_false, ite_true, ite_false, z_up_eq, z_up_app, z_ro_eq, kT, lT, a1, k1, l1, i1, k80, a2]
theorem lw_38 {i : Int} {N : Nat} (h : z_I S0 c T G) (hc : c < 600) (hk : T.1 1 = (20, N)) (hi : 0 ≤ i ∧ i + 6 ≤ N) (hN : N ≤ 3072) (hx : ∀ k, i_in (G 1 k)) : lw_go S0 c T G s i 1415 := by
  have h98 := h.2.2.2.2.2.2.2.2.2.2.1.1
  have kT : ∀ G s, z_kd (z_Y T G s) 1 = 20 := fun G s => by show (T.1 1).1 = 20; rw [hk]
  have lT : ∀ G s, z_ln (z_Y T G s) 1 = N := fun G s => by show (T.1 1).2 = N; rw [hk]
  have x1 := hx (i + 1)
  obtain ⟨v, σ1, T2, G2, s2, a1, a2, hI, hT, k1, l1, k80, i1⟩ := z_pr_go (e1 := 1) (e2 := 0) (mf := d_B_starts) (mg := d_M_starts) (t_starts 52 h hc (p := G 1 (i + 1)) (hx _)) h98 rfl rfl rfl rfl ⟨by decide, by decide⟩ rfl s
  rw [hk] at k1 l1 i1
  have i1 := i1 rfl
  refine ⟨T2, G2, s2, ?_, hI, hT⟩
  rw [e_L_law_1415]
  simp -implicitDefEqProofs (disch := first | assumption | omega | rfl | (simp only [z_up_eq, z_up_app, ↓reduceIte, Nat.reduceEqDiff]; omega)) only [z_lit0, z_lit1, z_lit2, z_litl, iI_add, iI_sub, iI_mul, iI_neg, iI_and, iI_or, iI_xor, iI_shl, iI_shr, iI_ushr, iI_div, iI_b, iI_c, iI_i2l, lI_l2i, lI_add, lI_sub, lI_mul, lI_neg, lI_div, lI_or, lI_and, lI_shl, lI_shr, nI_iI, lg_lt0, lg_gt0, lg_eq0, i_ne0', l_ne0', iI_lt, iI_le, iI_eq, lI_lt, lI_le, lI_eq, zb_0, zb_fit, zb_fit0, zb_fit1, i_one_zero, i_w_in, z_tb0, z_tb1, z_tb2, z_tb3, z_tb4, z_tb5, z_tb6, z_tb7, z_tb8, z_tbl, z_tu0, z_tu1, z_tu2, z_i_62, z_i_63, z_i_86, z_i_88, z_l_Y, z_ui_62, z_ui_63, z_ui_86, z_ui_88, z_ul_Y, z_sz_Y, z_sw_Y, iI_nat, z_ix_t, z_at, Int.add_zero, Int.sub_zero, Int.zero_add, Int.mul_zero, ne_eq, Bool.false_eq_true, Bool.true_eq_false, reduceCtorEq, eq_self, and_true, true_and, and_false, false_and, and_self, not_true_eq_false, not_false_eq_true, decide_true, decide_false, ↓reduceIte, Int.reduceEq, Int.reduceNe, Int.reduceLT, Int.reduceLE, Int.reduceAdd, Int.reduceSub, Int.reduceMul, Int.reduceNeg, Nat.reduceAdd, Nat.reduceEqDiff, Nat.reduceBEq, ↓z_x_eq, z_g_t, z_bI_s, z_bL_s, z_bR_s, z_bV_s, Int.cast_ofNat_Int, beq_self_eq_true, Bool.and_true, Bool.true_and, Bool.and_self, Bool.or_true, Bool.true_or, Bool.false_and, Bool.and_false, Bool.false_or, Bool.or_false, Bool.not_false, Bool.not_true, if_true, if_false, ite_true, ite_false, z_up_eq, z_up_app, z_ro_eq, kT, lT, a1, k1, l1, i1, k80, a2]
theorem lw_39 {i : Int} {N : Nat} (h : z_I S0 c T G) (hc : c < 600) (hk : T.1 1 = (20, N)) (hi : 0 ≤ i ∧ i + 6 ≤ N) (hN : N ≤ 3072) (hx : ∀ k, i_in (G 1 k)) : lw_go S0 c T G s i 1438 := by
  have h98 := h.2.2.2.2.2.2.2.2.2.2.1.1
  have kT : ∀ G s, z_kd (z_Y T G s) 1 = 20 := fun G s => by show (T.1 1).1 = 20; rw [hk]
  have lT : ∀ G s, z_ln (z_Y T G s) 1 = N := fun G s => by show (T.1 1).2 = N; rw [hk]
  obtain ⟨v, σ1, T2, G2, s2, a1, a2, hI, hT, k1, l1, k80, i1⟩ := z_pr_go (e1 := 0) (e2 := 1) (mf := d_B_image) (mg := d_M_image) (t_image 57 h hc ) h98 rfl rfl rfl rfl ⟨by decide, by decide⟩ rfl s
  rw [hk] at k1 l1 i1
  have i1 := i1 rfl
  refine ⟨T2, G2, s2, ?_, hI, hT⟩
  rw [e_L_law_1438]
  simp -implicitDefEqProofs (disch := first | assumption | omega | rfl | (simp only [z_up_eq, z_up_app, ↓reduceIte, Nat.reduceEqDiff]; omega)) only [z_lit0, z_lit1, z_lit2, z_litl, iI_add, iI_sub, iI_mul, iI_neg, iI_and, iI_or, iI_xor, iI_shl, iI_shr, iI_ushr, iI_div, iI_b, iI_c, iI_i2l, lI_l2i, lI_add, lI_sub, lI_mul, lI_neg, lI_div, lI_or, lI_and, lI_shl, lI_shr, nI_iI, lg_lt0, lg_gt0, lg_eq0, i_ne0', l_ne0', iI_lt, iI_le, iI_eq, lI_lt, lI_le, lI_eq, zb_0, zb_fit, zb_fit0, zb_fit1, i_one_zero, i_w_in, z_tb0, z_tb1, z_tb2, z_tb3, z_tb4, z_tb5, z_tb6, z_tb7, z_tb8, z_tbl, z_tu0, z_tu1, z_tu2, z_i_62, z_i_63, z_i_86, z_i_88, z_l_Y, z_ui_62, z_ui_63, z_ui_86, z_ui_88, z_ul_Y, z_sz_Y, z_sw_Y, iI_nat, z_ix_t, z_at, Int.add_zero, Int.sub_zero, Int.zero_add, Int.mul_zero, ne_eq, Bool.false_eq_true, Bool.true_eq_false, reduceCtorEq, eq_self, and_true, true_and, and_false, false_and, and_self, not_true_eq_false, not_false_eq_true, decide_true, decide_false, ↓reduceIte, Int.reduceEq, Int.reduceNe, Int.reduceLT, Int.reduceLE, Int.reduceAdd, Int.reduceSub, Int.reduceMul, Int.reduceNeg, Nat.reduceAdd, Nat.reduceEqDiff, Nat.reduceBEq, ↓z_x_eq, z_g_t, z_bI_s, z_bL_s, z_bR_s, z_bV_s, Int.cast_ofNat_Int, beq_self_eq_true, Bool.and_true, Bool.true_and, Bool.and_self, Bool.or_true, Bool.true_or, Bool.false_and, Bool.and_false, Bool.false_or, Bool.or_false, Bool.not_false, Bool.not_true, if_true, if_false, ite_true, ite_false, z_up_eq, z_up_app, z_ro_eq, kT, lT, a1, k1, l1, i1, k80, a2]
theorem lw_40 {i : Int} {N : Nat} (h : z_I S0 c T G) (hc : c < 600) (hk : T.1 1 = (20, N)) (hi : 0 ≤ i ∧ i + 6 ≤ N) (hN : N ≤ 3072) (hx : ∀ k, i_in (G 1 k)) : lw_go S0 c T G s i 1451 := by
  have h98 := h.2.2.2.2.2.2.2.2.2.2.1.1
  have kT : ∀ G s, z_kd (z_Y T G s) 1 = 20 := fun G s => by show (T.1 1).1 = 20; rw [hk]
  have lT : ∀ G s, z_ln (z_Y T G s) 1 = N := fun G s => by show (T.1 1).2 = N; rw [hk]
  obtain ⟨v, σ1, T2, G2, s2, a1, a2, hI, hT, k1, l1, k80, i1⟩ := z_pr_go (e1 := 0) (e2 := 1) (mf := d_B_back) (mg := d_M_back) (t_back 57 h hc ) h98 rfl rfl rfl rfl ⟨by decide, by decide⟩ rfl s
  rw [hk] at k1 l1 i1
  have i1 := i1 rfl
  refine ⟨T2, G2, s2, ?_, hI, hT⟩
  rw [e_L_law_1451]
  simp -implicitDefEqProofs (disch := first | assumption | omega | rfl | (simp only [z_up_eq, z_up_app, ↓reduceIte, Nat.reduceEqDiff]; omega)) only [z_lit0, z_lit1, z_lit2, z_litl, iI_add, iI_sub, iI_mul, iI_neg, iI_and, iI_or, iI_xor, iI_shl, iI_shr, iI_ushr, iI_div, iI_b, iI_c, iI_i2l, lI_l2i, lI_add, lI_sub, lI_mul, lI_neg, lI_div, lI_or, lI_and, lI_shl, lI_shr, nI_iI, lg_lt0, lg_gt0, lg_eq0, i_ne0', l_ne0', iI_lt, iI_le, iI_eq, lI_lt, lI_le, lI_eq, zb_0, zb_fit, zb_fit0, zb_fit1, i_one_zero, i_w_in, z_tb0, z_tb1, z_tb2, z_tb3, z_tb4, z_tb5, z_tb6, z_tb7, z_tb8, z_tbl, z_tu0, z_tu1, z_tu2, z_i_62, z_i_63, z_i_86, z_i_88, z_l_Y, z_ui_62, z_ui_63, z_ui_86, z_ui_88, z_ul_Y, z_sz_Y, z_sw_Y, iI_nat, z_ix_t, z_at, Int.add_zero, Int.sub_zero, Int.zero_add, Int.mul_zero, ne_eq, Bool.false_eq_true, Bool.true_eq_false, reduceCtorEq, eq_self, and_true, true_and, and_false, false_and, and_self, not_true_eq_false, not_false_eq_true, decide_true, decide_false, ↓reduceIte, Int.reduceEq, Int.reduceNe, Int.reduceLT, Int.reduceLE, Int.reduceAdd, Int.reduceSub, Int.reduceMul, Int.reduceNeg, Nat.reduceAdd, Nat.reduceEqDiff, Nat.reduceBEq, ↓z_x_eq, z_g_t, z_bI_s, z_bL_s, z_bR_s, z_bV_s, Int.cast_ofNat_Int, beq_self_eq_true, Bool.and_true, Bool.true_and, Bool.and_self, Bool.or_true, Bool.true_or, Bool.false_and, Bool.and_false, Bool.false_or, Bool.or_false, Bool.not_false, Bool.not_true, if_true, if_false, ite_true, ite_false, z_up_eq, z_up_app, z_ro_eq, kT, lT, a1, k1, l1, i1, k80, a2]
theorem lw_41 {i : Int} {N : Nat} (h : z_I S0 c T G) (hc : c < 600) (hk : T.1 1 = (20, N)) (hi : 0 ≤ i ∧ i + 6 ≤ N) (hN : N ≤ 3072) (hx : ∀ k, i_in (G 1 k)) : lw_go S0 c T G s i 1464 := by
  have h98 := h.2.2.2.2.2.2.2.2.2.2.1.1
  have kT : ∀ G s, z_kd (z_Y T G s) 1 = 20 := fun G s => by show (T.1 1).1 = 20; rw [hk]
  have lT : ∀ G s, z_ln (z_Y T G s) 1 = N := fun G s => by show (T.1 1).2 = N; rw [hk]
  have x1 := hx (i + 1)
  obtain ⟨v, σ1, T2, G2, s2, a1, a2, hI, hT, k1, l1, k80, i1⟩ := z_pr_go (e1 := 1) (e2 := 0) (mf := d_B_about) (mg := d_M_about) (t_about 58 h hc (w := G 1 (i + 1)) (hx _)) h98 rfl rfl rfl rfl ⟨by decide, by decide⟩ rfl s
  rw [hk] at k1 l1 i1
  have i1 := i1 rfl
  refine ⟨T2, G2, s2, ?_, hI, hT⟩
  rw [e_L_law_1464]
  simp -implicitDefEqProofs (disch := first | assumption | omega | rfl | (simp only [z_up_eq, z_up_app, ↓reduceIte, Nat.reduceEqDiff]; omega)) only [z_lit0, z_lit1, z_lit2, z_litl, iI_add, iI_sub, iI_mul, iI_neg, iI_and, iI_or, iI_xor, iI_shl, iI_shr, iI_ushr, iI_div, iI_b, iI_c, iI_i2l, lI_l2i, lI_add, lI_sub, lI_mul, lI_neg, lI_div, lI_or, lI_and, lI_shl, lI_shr, nI_iI, lg_lt0, lg_gt0, lg_eq0, i_ne0', l_ne0', iI_lt, iI_le, iI_eq, lI_lt, lI_le, lI_eq, zb_0, zb_fit, zb_fit0, zb_fit1, i_one_zero, i_w_in, z_tb0, z_tb1, z_tb2, z_tb3, z_tb4, z_tb5, z_tb6, z_tb7, z_tb8, z_tbl, z_tu0, z_tu1, z_tu2, z_i_62, z_i_63, z_i_86, z_i_88, z_l_Y, z_ui_62, z_ui_63, z_ui_86, z_ui_88, z_ul_Y, z_sz_Y, z_sw_Y, iI_nat, z_ix_t, z_at, Int.add_zero, Int.sub_zero, Int.zero_add, Int.mul_zero, ne_eq, Bool.false_eq_true, Bool.true_eq_false, reduceCtorEq, eq_self, and_true, true_and, and_false, false_and, and_self, not_true_eq_false, not_false_eq_true, decide_true, decide_false, ↓reduceIte, Int.reduceEq, Int.reduceNe, Int.reduceLT, Int.reduceLE, Int.reduceAdd, Int.reduceSub, Int.reduceMul, Int.reduceNeg, Nat.reduceAdd, Nat.reduceEqDiff, Nat.reduceBEq, ↓z_x_eq, z_g_t, z_bI_s, z_bL_s, z_bR_s, z_bV_s, Int.cast_ofNat_Int, beq_self_eq_true, Bool.and_true, Bool.true_and, Bool.and_self, Bool.or_true, Bool.true_or, Bool.false_and, Bool.and_false, Bool.false_or, Bool.or_false, Bool.not_false, Bool.not_true, if_true, if_false, ite_true, ite_false, z_up_eq, z_up_app, z_ro_eq, kT, lT, a1, k1, l1, i1, k80, a2]
end

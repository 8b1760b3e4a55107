/-! THE PURE PART, 112: the law's calls, further (printed by gen/law99.py) -/
section
variable {S0 : ZG} {c : Int} {T : ZT} {G : ZG} {s : ZG × ZG}
theorem lw_14 {i : Int} {N : Nat} (h : z_I S0 c T G) (hc : c < 600) (hk : T.1 1 = (20, N)) (hi : 0 ≤ i ∧ i + 6 ≤ N) (hN : N ≤ 3072) (hx : ∀ k, i_in (G 1 k)) : lw_go S0 c T G s i 664 := by
  have h98 := h.2.2.2.2.2.2.2.2.2.2.1.1
  have kT : ∀ G s, z_kd (z_Y T G s) 1 = 20 := fun G s => by show (T.1 1).1 = 20; rw [hk]
  have lT : ∀ G s, z_ln (z_Y T G s) 1 = N := fun G s => by show (T.1 1).2 = N; rw [hk]
  have x1 := hx (i + 1)
  obtain ⟨v, σ1, T2, G2, s2, a1, a2, hI, hT, k1, l1, k80, i1⟩ := z_pr_go (e1 := 2) (e2 := 0) (mf := d_B_played) (mg := d_M_played) (t_played 50 h hc (x := G 1 (i + 1)) (hx _)) h98 rfl rfl rfl rfl ⟨by decide, by decide⟩ rfl s
  rw [hk] at k1 l1 i1
  have i1 := i1 rfl
  refine ⟨T2, G2, s2, ?_, hI, hT⟩
  rw [e_L_law_664]
  simp -implicitDefEqProofs (disch := first | assumption | omega | rfl | (simp only [z_up_eq, z_up_app, ↓reduceIte, Nat.reduceEqDiff]; omega)) only [z_lit0, z_lit1, z_lit2, z_litl, iI_add, iI_sub, iI_mul, iI_neg, iI_and, iI_or, iI_xor, iI_shl, iI_shr, iI_ushr, iI_div, iI_b, iI_c, iI_i2l, lI_l2i, lI_add, lI_sub, lI_mul, lI_neg, lI_div, lI_or, lI_and, lI_shl, lI_shr, nI_iI, lg_lt0, lg_gt0, lg_eq0, i_ne0', l_ne0', iI_lt, iI_le, iI_eq, lI_lt, lI_le, lI_eq, zb_0, zb_fit, zb_fit0, zb_fit1, i_one_zero, i_w_in, z_tb0, z_tb1, z_tb2, z_tb3, z_tb4, z_tb5, z_tb6, z_tb7, z_tb8, z_tbl, z_tu0, z_tu1, z_tu2, z_i_62, z_i_63, z_i_86, z_i_88, z_l_Y, z_ui_62, z_ui_63, z_ui_86, z_ui_88, z_ul_Y, z_sz_Y, z_sw_Y, iI_nat, z_ix_t, z_at, Int.add_zero, Int.sub_zero, Int.zero_add, Int.mul_zero, ne_eq, Bool.false_eq_true, Bool.true_eq_false, reduceCtorEq, eq_self, and_true, true_and, and_false, false_and, and_self, not_true_eq_false, not_false_eq_true, decide_true, decide_false, ↓reduceIte, Int.reduceEq, Int.reduceNe, Int.reduceLT, Int.reduceLE, Int.reduceAdd, Int.reduceSub, Int.reduceMul, Int.reduceNeg, Nat.reduceAdd, Nat.reduceEqDiff, Nat.reduceBEq, ↓z_x_eq, z_g_t, z_bI_s, z_bL_s, z_bR_s, z_bV_s, Int.cast_ofNat_Int, beq_self_eq_true, Bool.and_true, Bool.true_and, Bool.and_self, Bool.or_true, Bool.true_or, Bool.false_and, Bool.and_false, Bool.false_or, Bool.or_false, Bool.not_false, Bool.not_true, if_true, if_false, ite_true, ite_false, z_up_eq, z_up_app, z_ro_eq, kT, lT, a1, k1, l1, i1, k80, a2]
theorem lw_15 {i : Int} {N : Nat} (h : z_I S0 c T G) (hc : c < 600) (hk : T.1 1 = (20, N)) (hi : 0 ≤ i ∧ i + 6 ≤ N) (hN : N ≤ 3072) (hx : ∀ k, i_in (G 1 k)) : lw_go S0 c T G s i 687 := by
  have h98 := h.2.2.2.2.2.2.2.2.2.2.1.1
  have kT : ∀ G s, z_kd (z_Y T G s) 1 = 20 := fun G s => by show (T.1 1).1 = 20; rw [hk]
  have lT : ∀ G s, z_ln (z_Y T G s) 1 = N := fun G s => by show (T.1 1).2 = N; rw [hk]
  have x1 := hx (i + 1)
  have x2 := hx (i + 2)
  obtain ⟨v, σ1, T2, G2, s2, a1, a2, hI, hT, k1, l1, k80, i1⟩ := z_pr_go (e1 := 1) (e2 := 0) (mf := d_B_season) (mg := d_M_season) (t_season 51 h hc (p := G 1 (i + 1)) (w := G 1 (i + 2)) (hx _) (hx _)) h98 rfl rfl rfl rfl ⟨by decide, by decide⟩ rfl s
  rw [hk] at k1 l1 i1
  have i1 := i1 rfl
  refine ⟨T2, G2, s2, ?_, hI, hT⟩
  rw [e_L_law_687]
  simp -implicitDefEqProofs (disch := first | assumption | omega | rfl | (simp only [z_up_eq, z_up_app, ↓reduceIte, Nat.reduceEqDiff]; omega)) only [z_lit0, z_lit1, z_lit2, z_litl, iI_add, iI_sub, iI_mul, iI_neg, iI_and, iI_or, iI_xor, iI_shl, iI_shr, iI_ushr, iI_div, iI_b, iI_c, iI_i2l, lI_l2i, lI_add, lI_sub, lI_mul, lI_neg, lI_div, lI_or, lI_and, lI_shl, lI_shr, nI_iI, lg_lt0, lg_gt0, lg_eq0, i_ne0', l_ne0', iI_lt, iI_le, iI_eq, lI_lt, lI_le, lI_eq, zb_0, zb_fit, zb_fit0, zb_fit1, i_one_zero, i_w_in, z_tb0, z_tb1, z_tb2, z_tb3, z_tb4, z_tb5, z_tb6, z_tb7, z_tb8, z_tbl, z_tu0, z_tu1, z_tu2, z_i_62, z_i_63, z_i_86, z_i_88, z_l_Y, z_ui_62, z_ui_63, z_ui_86, z_ui_88, z_ul_Y, z_sz_Y, z_sw_Y, iI_nat, z_ix_t, z_at, Int.add_zero, Int.sub_zero, Int.zero_add, Int.mul_zero, ne_eq, Bool.false_eq_true, Bool.true_eq_false, reduceCtorEq, eq_self, and_true, true_and, and_false, false_and, and_self, not_true_eq_false, not_false_eq_true, decide_true, decide_false, ↓reduceIte, Int.reduceEq, Int.reduceNe, Int.reduceLT, Int.reduceLE, Int.reduceAdd, Int.reduceSub, Int.reduceMul, Int.reduceNeg, Nat.reduceAdd, Nat.reduceEqDiff, Nat.reduceBEq, ↓z_x_eq, z_g_t, z_bI_s, z_bL_s, z_bR_s, z_bV_s, Int.cast_ofNat_Int, beq_self_eq_true, Bool.and_true, Bool.true_and, Bool.and_self, Bool.or_true, Bool.true_or, Bool.false_and, Bool.and_false, Bool.false_or, Bool.or_false, Bool.not_false, Bool.not_true, if_true, if_false, ite_true, ite_false, z_up_eq, z_up_app, z_ro_eq, kT, lT, a1, k1, l1, i1, k80, a2]
theorem lw_16 {i : Int} {N : Nat} (h : z_I S0 c T G) (hc : c < 600) (hk : T.1 1 = (20, N)) (hi : 0 ≤ i ∧ i + 6 ≤ N) (hN : N ≤ 3072) (hx : ∀ k, i_in (G 1 k)) : lw_go S0 c T G s i 720 := by
  have h98 := h.2.2.2.2.2.2.2.2.2.2.1.1
  have kT : ∀ G s, z_kd (z_Y T G s) 1 = 20 := fun G s => by show (T.1 1).1 = 20; rw [hk]
  have lT : ∀ G s, z_ln (z_Y T G s) 1 = N := fun G s => by show (T.1 1).2 = N; rw [hk]
  obtain ⟨v, σ1, T2, G2, s2, a1, a2, hI, hT, k1, l1, k80, i1⟩ := z_pr_go (e1 := 0) (e2 := 2) (mf := d_B_undo) (mg := d_M_undo) (t_undo 56 h hc ) h98 rfl rfl rfl rfl ⟨by decide, by decide⟩ rfl s
  rw [hk] at k1 l1 i1
  have i1 := i1 rfl
  refine ⟨T2, G2, s2, ?_, hI, hT⟩
  rw [e_L_law_720]
  simp -implicitDefEqProofs (disch := first | assumption | omega | rfl | (simp only [z_up_eq, z_up_app, ↓reduceIte, Nat.reduceEqDiff]; omega)) only [z_lit0, z_lit1, z_lit2, z_litl, iI_add, iI_sub, iI_mul, iI_neg, iI_and, iI_or, iI_xor, iI_shl, iI_shr, iI_ushr, iI_div, iI_b, iI_c, iI_i2l, lI_l2i, lI_add, lI_sub, lI_mul, lI_neg, lI_div, lI_or, lI_and, lI_shl, lI_shr, nI_iI, lg_lt0, lg_gt0, lg_eq0, i_ne0', l_ne0', iI_lt, iI_le, iI_eq, lI_lt, lI_le, lI_eq, zb_0, zb_fit, zb_fit0, zb_fit1, i_one_zero, i_w_in, z_tb0, z_tb1, z_tb2, z_tb3, z_tb4, z_tb5, z_tb6, z_tb7, z_tb8, z_tbl, z_tu0, z_tu1, z_tu2, z_i_62, z_i_63, z_i_86, z_i_88, z_l_Y, z_ui_62, z_ui_63, z_ui_86, z_ui_88, z_ul_Y, z_sz_Y, z_sw_Y, iI_nat, z_ix_t, z_at, Int.add_zero, Int.sub_zero, Int.zero_add, Int.mul_zero, ne_eq, Bool.false_eq_true, Bool.true_eq_false, reduceCtorEq, eq_self, and_true, true_and, and_false, false_and, and_self, not_true_eq_false, not_false_eq_true, decide_true, decide_false, ↓reduceIte, Int.reduceEq, Int.reduceNe, Int.reduceLT, Int.reduceLE, Int.reduceAdd, Int.reduceSub, Int.reduceMul, Int.reduceNeg, Nat.reduceAdd, Nat.reduceEqDiff, Nat.reduceBEq, ↓z_x_eq, z_g_t, z_bI_s, z_bL_s, z_bR_s, z_bV_s, Int.cast_ofNat_Int, beq_self_eq_true, Bool.and_true, Bool.true_and, Bool.and_self, Bool.or_true, Bool.true_or, Bool.false_and, Bool.and_false, Bool.false_or, Bool.or_false, Bool.not_false, Bool.not_true, if_true, if_false, ite_true, ite_false, z_up_eq, z_up_app, z_ro_eq, kT, lT, a1, k1, l1, i1, k80, a2]
theorem lw_17 {i : Int} {N : Nat} (h : z_I S0 c T G) (hc : c < 600) (hk : T.1 1 = (20, N)) (hi : 0 ≤ i ∧ i + 6 ≤ N) (hN : N ≤ 3072) (hx : ∀ k, i_in (G 1 k)) : lw_go S0 c T G s i 733 := by
  have h98 := h.2.2.2.2.2.2.2.2.2.2.1.1
  have kT : ∀ G s, z_kd (z_Y T G s) 1 = 20 := fun G s => by show (T.1 1).1 = 20; rw [hk]
  have lT : ∀ G s, z_ln (z_Y T G s) 1 = N := fun G s => by show (T.1 1).2 = N; rw [hk]
  have x1 := hx (i + 1)
  have x2 := hx (i + 2)
  obtain ⟨v, σ1, T2, G2, s2, a1, a2, hI, hT, k1, l1, k80, i1⟩ := z_pr_go (e1 := 1) (e2 := 0) (mf := d_B_of) (mg := d_M_of) (t_of 53 h hc (p := G 1 (i + 1)) (w := G 1 (i + 2)) (hx _) (hx _)) h98 rfl rfl rfl rfl ⟨by decide, by decide⟩ rfl s
  rw [hk] at k1 l1 i1
  have i1 := i1 rfl
  refine ⟨T2, G2, s2, ?_, hI, hT⟩
  rw [e_L_law_733]
  simp -implicitDefEqProofs (disch := first | assumption | omega | rfl | (simp only [z_up_eq, z_up_app, ↓reduceIte, Nat.reduceEqDiff]; omega)) only [z_lit0, z_lit1, z_lit2, z_litl, iI_add, iI_sub, iI_mul, iI_neg, iI_and, iI_or, iI_xor, iI_shl, iI_shr, iI_ushr, iI_div, iI_b, iI_c, iI_i2l, lI_l2i, lI_add, lI_sub, lI_mul, lI_neg, lI_div, lI_or, lI_and, lI_shl, lI_shr, nI_iI, lg_lt0, lg_gt0, lg_eq0, i_ne0', l_ne0', iI_lt, iI_le, iI_eq, lI_lt, lI_le, lI_eq, zb_0, zb_fit, zb_fit0, zb_fit1, i_one_zero, i_w_in, z_tb0, z_tb1, z_tb2, z_tb3, z_tb4, z_tb5, z_tb6, z_tb7, z_tb8, z_tbl, z_tu0, z_tu1, z_tu2, z_i_62, z_i_63, z_i_86, z_i_88, z_l_Y, z_ui_62, z_ui_63, z_ui_86, z_ui_88, z_ul_Y, z_sz_Y, z_sw_Y, iI_nat, z_ix_t, z_at, Int.add_zero, Int.sub_zero, Int.zero_add, Int.mul_zero, ne_eq, Bool.false_eq_true, Bool.true_eq_false, reduceCtorEq, eq_self, and_true, true_and, and_false, false_and, and_self, not_true_eq_false, not_false_eq_true, decide_true, decide_false, ↓reduceIte, Int.reduceEq, Int.reduceNe, Int.reduceLT, Int.reduceLE, Int.reduceAdd, Int.reduceSub, Int.reduceMul, Int.reduceNeg, Nat.reduceAdd, Nat.reduceEqDiff, Nat.reduceBEq, ↓z_x_eq, z_g_t, z_bI_s, z_bL_s, z_bR_s, z_bV_s, Int.cast_ofNat_Int, beq_self_eq_true, Bool.and_true, Bool.true_and, Bool.and_self, Bool.or_true, Bool.true_or, Bool.false_and, Bool.and_false, Bool.false_or, Bool.or_false, Bool.not_false, Bool.not_true, if_true, if_false, ite_true, ite_false, z_up_eq, z_up_app, z_ro_eq, kT, lT, a1, k1, l1, i1, k80, a2]
theorem lw_18 {i : Int} {N : Nat} (h : z_I S0 c T G) (hc : c < 600) (hk : T.1 1 = (20, N)) (hi : 0 ≤ i ∧ i + 6 ≤ N) (hN : N ≤ 3072) (hx : ∀ k, i_in (G 1 k)) : lw_go S0 c T G s i 766 := by
  have h98 := h.2.2.2.2.2.2.2.2.2.2.1.1
  have kT : ∀ G s, z_kd (z_Y T G s) 1 = 20 := fun G s => by show (T.1 1).1 = 20; rw [hk]
  have lT : ∀ G s, z_ln (z_Y T G s) 1 = N := fun G s => by show (T.1 1).2 = N; rw [hk]
  have x1 := hx (i + 1)
  have x2 := hx (i + 2)
  obtain ⟨v, σ1, T2, G2, s2, a1, a2, hI, hT, k1, l1, k80, i1⟩ := z_pr_go (e1 := 0) (e2 := 0) (mf := d_B_ofSeat) (mg := d_M_ofSeat) (t_ofSeat 57 h hc (p := G 1 (i + 1)) (w := G 1 (i + 2)) (hx _) (hx _)) h98 rfl rfl rfl rfl ⟨by decide, by decide⟩ rfl s
  rw [hk] at k1 l1 i1
  have i1 := i1 rfl
  refine ⟨T2, G2, s2, ?_, hI, hT⟩
  rw [e_L_law_766]
  simp -implicitDefEqProofs (disch := first | assumption | omega | rfl | (simp only [z_up_eq, z_up_app, ↓reduceIte, Nat.reduceEqDiff]; omega)) only [z_lit0, z_lit1, z_lit2, z_litl, iI_add, iI_sub, iI_mul, iI_neg, iI_and, iI_or, iI_xor, iI_shl, iI_shr, iI_ushr, iI_div, iI_b, iI_c, iI_i2l, lI_l2i, lI_add, lI_sub, lI_mul, lI_neg, lI_div, lI_or, lI_and, lI_shl, lI_shr, nI_iI, lg_lt0, lg_gt0, lg_eq0, i_ne0', l_ne0', iI_lt, iI_le, iI_eq, lI_lt, lI_le, lI_eq, zb_0, zb_fit, zb_fit0, zb_fit1, i_one_zero, i_w_in, z_tb0, z_tb1, z_tb2, z_tb3, z_tb4, z_tb5, z_tb6, z_tb7, z_tb8, z_tbl, z_tu0, z_tu1, z_tu2, z_i_62, z_i_63, z_i_86, z_i_88, z_l_Y, z_ui_62, z_ui_63, z_ui_86, z_ui_88, z_ul_Y, z_sz_Y, z_sw_Y, iI_nat, z_ix_t, z_at, Int.add_zero, Int.sub_zero, Int.zero_add, Int.mul_zero, ne_eq, Bool.false_eq_true, Bool.true_eq_false, reduceCtorEq, eq_self, and_true, true_and, and_false, false_and, and_self, not_true_eq_false, not_false_eq_true, decide_true, decide_false, ↓reduceIte, Int.reduceEq, Int.reduceNe, Int.reduceLT, Int.reduceLE, Int.reduceAdd, Int.reduceSub, Int.reduceMul, Int.reduceNeg, Nat.reduceAdd, Nat.reduceEqDiff, Nat.reduceBEq, ↓z_x_eq, z_g_t, z_bI_s, z_bL_s, z_bR_s, z_bV_s, Int.cast_ofNat_Int, beq_self_eq_true, Bool.and_true, Bool.true_and, Bool.and_self, Bool.or_true, Bool.true_or, Bool.false_and, Bool.and_false, Bool.false_or, Bool.or_false, Bool.not_false, Bool.not_true, if_true, if_false, ite_true, ite_false, z_up_eq, z_up_app, z_ro_eq, kT, lT, a1, k1, l1, i1, k80, a2]
theorem lw_19 {i : Int} {N : Nat} (h : z_I S0 c T G) (hc : c < 600) (hk : T.1 1 = (20, N)) (hi : 0 ≤ i ∧ i + 6 ≤ N) (hN : N ≤ 3072) (hx : ∀ k, i_in (G 1 k)) : lw_go S0 c T G s i 799 := by
  have h98 := h.2.2.2.2.2.2.2.2.2.2.1.1
  have kT : ∀ G s, z_kd (z_Y T G s) 1 = 20 := fun G s => by show (T.1 1).1 = 20; rw [hk]
  have lT : ∀ G s, z_ln (z_Y T G s) 1 = N := fun G s => by show (T.1 1).2 = N; rw [hk]
  have x1 := hx (i + 1)
  have x2 := hx (i + 2)
  obtain ⟨v, σ1, T2, G2, s2, a1, a2, hI, hT, k1, l1, k80, i1⟩ := z_pr_go (e1 := 2) (e2 := 0) (mf := d_B_ofNote) (mg := d_M_ofNote) (t_ofNote 51 h hc (p := G 1 (i + 1)) (w := G 1 (i + 2)) (hx _) (hx _)) h98 rfl rfl rfl rfl ⟨by decide, by decide⟩ rfl s
  rw [hk] at k1 l1 i1
  have i1 := i1 rfl
  refine ⟨T2, G2, s2, ?_, hI, hT⟩
  rw [e_L_law_799]
  simp -implicitDefEqProofs (disch := first | assumption | omega | rfl | (simp only [z_up_eq, z_up_app, ↓reduceIte, Nat.reduceEqDiff]; omega)) only [z_lit0, z_lit1, z_lit2, z_litl, iI_add, iI_sub, iI_mul, iI_neg, iI_and, iI_or, iI_xor, iI_shl, iI_shr, iI_ushr, iI_div, iI_b, iI_c, iI_i2l, lI_l2i, lI_add, lI_sub, lI_mul, lI_neg, lI_div, lI_or, lI_and, lI_shl, lI_shr, nI_iI, lg_lt0, lg_gt0, lg_eq0, i_ne0', l_ne0', iI_lt, iI_le, iI_eq, lI_lt, lI_le, lI_eq, zb_0, zb_fit, zb_fit0, zb_fit1, i_one_zero, i_w_in, z_tb0, z_tb1, z_tb2, z_tb3, z_tb4, z_tb5, z_tb6, z_tb7, z_tb8, z_tbl, z_tu0, z_tu1, z_tu2, z_i_62, z_i_63, z_i_86, z_i_88, z_l_Y, z_ui_62, z_ui_63, z_ui_86, z_ui_88, z_ul_Y, z_sz_Y, z_sw_Y, iI_nat, z_ix_t, z_at, Int.add_zero, Int.sub_zero, Int.zero_add, Int.mul_zero, ne_eq, Bool.false_eq_true, Bool.true_eq_false, reduceCtorEq, eq_self, and_true, true_and, and_false, false_and, and_self, not_true_eq_false, not_false_eq_true, decide_true, decide_false, ↓reduceIte, Int.reduceEq, Int.reduceNe, Int.reduceLT, Int.reduceLE, Int.reduceAdd, Int.reduceSub, Int.reduceMul, Int.reduceNeg, Nat.reduceAdd, Nat.reduceEqDiff, Nat.reduceBEq, ↓z_x_eq, z_g_t, z_bI_s, z_bL_s, z_bR_s, z_bV_s, Int.cast_ofNat_Int, beq_self_eq_true, Bool.and_true, Bool.true_and, Bool.and_self, Bool.or_true, Bool.true_or, Bool.false_and, Bool.and_false, Bool.false_or, Bool.or_false, Bool.not_false, Bool.not_true, if_true, if_false, ite_true, ite_false, z_up_eq, z_up_app, z_ro_eq, kT, lT, a1, k1, l1, i1, k80, a2]
theorem lw_20 {i : Int} {N : Nat} (h : z_I S0 c T G) (hc : c < 600) (hk : T.1 1 = (20, N)) (hi : 0 ≤ i ∧ i + 6 ≤ N) (hN : N ≤ 3072) (hx : ∀ k, i_in (G 1 k)) : lw_go S0 c T G s i 832 := by
  have h98 := h.2.2.2.2.2.2.2.2.2.2.1.1
  have kT : ∀ G s, z_kd (z_Y T G s) 1 = 20 := fun G s => by show (T.1 1).1 = 20; rw [hk]
  have lT : ∀ G s, z_ln (z_Y T G s) 1 = N := fun G s => by show (T.1 1).2 = N; rw [hk]
  have x1 := hx (i + 1)
  obtain ⟨v, σ1, T2, G2, s2, a1, a2, hI, hT, k1, l1, k80, i1⟩ := z_pr_go (e1 := 2) (e2 := 0) (mf := d_B_air) (mg := d_M_air) (t_air 52 h hc (x := G 1 (i + 1)) (hx _)) h98 rfl rfl rfl rfl ⟨by decide, by decide⟩ rfl s
  rw [hk] at k1 l1 i1
  have i1 := i1 rfl
  refine ⟨T2, G2, s2, ?_, hI, hT⟩
  rw [e_L_law_832]
  simp -implicitDefEqProofs (disch := first | assumption | omega | rfl | (simp only [z_up_eq, z_up_app, ↓reduceIte, Nat.reduceEqDiff]; omega)) only [z_lit0, z_lit1, z_lit2, z_litl, iI_add, iI_sub, iI_mul, iI_neg, iI_and, iI_or, iI_xor, iI_shl, iI_shr, iI_ushr, iI_div, iI_b, iI_c, iI_i2l, lI_l2i, lI_add, lI_sub, lI_mul, lI_neg, lI_div, lI_or, lI_and, lI_shl, lI_shr, nI_iI, lg_lt0, lg_gt0, lg_eq0, i_ne0', l_ne0', iI_lt, iI_le, iI_eq, lI_lt, lI_le, lI_eq, zb_0, zb_fit, zb_fit0, zb_fit1, i_one_zero, i_w_in, z_tb0, z_tb1, z_tb2, z_tb3, z_tb4, z_tb5, z_tb6, z_tb7, z_tb8, z_tbl, z_tu0, z_tu1, z_tu2, z_i_62, z_i_63, z_i_86, z_i_88, z_l_Y, z_ui_62, z_ui_63, z_ui_86, z_ui_88, z_ul_Y, z_sz_Y, z_sw_Y, iI_nat, z_ix_t, z_at, Int.add_zero, Int.sub_zero, Int.zero_add, Int.mul_zero, ne_eq, Bool.false_eq_true, Bool.true_eq_false, reduceCtorEq, eq_self, and_true, true_and, and_false, false_and, and_self, not_true_eq_false, not_false_eq_true, decide_true, decide_false, ↓reduceIte, Int.reduceEq, Int.reduceNe, Int.reduceLT, Int.reduceLE, Int.reduceAdd, Int.reduceSub, Int.reduceMul, Int.reduceNeg, Nat.reduceAdd, Nat.reduceEqDiff, Nat.reduceBEq, ↓z_x_eq, z_g_t, z_bI_s, z_bL_s, z_bR_s, z_bV_s, Int.cast_ofNat_Int, beq_self_eq_true, Bool.and_true, Bool.true_and, Bool.and_self, Bool.or_true, Bool.true_or, Bool.false_and, Bool.and_false, Bool.false_or, Bool.or_false, Bool.not_false, Bool.not_true, if_true, if_false, ite_true, ite_false, z_up_eq, z_up_app, z_ro_eq, kT, lT, a1, k1, l1, i1, k80, a2]
theorem lw_21 {i : Int} {N : Nat} (h : z_I S0 c T G) (hc : c < 600) (hk : T.1 1 = (20, N)) (hi : 0 ≤ i ∧ i + 6 ≤ N) (hN : N ≤ 3072) (hx : ∀ k, i_in (G 1 k)) : lw_go S0 c T G s i 855 := by
  have h98 := h.2.2.2.2.2.2.2.2.2.2.1.1
  have kT : ∀ G s, z_kd (z_Y T G s) 1 = 20 := fun G s => by show (T.1 1).1 = 20; rw [hk]
  have lT : ∀ G s, z_ln (z_Y T G s) 1 = N := fun G s => by show (T.1 1).2 = N; rw [hk]
  have x1 := hx (i + 1)
  have x2 := hx (i + 2)
  obtain ⟨v, σ1, T2, G2, s2, a1, a2, hI, hT, k1, l1, k80, i1⟩ := z_pr_go (e1 := 1) (e2 := 0) (mf := d_B_coughs) (mg := d_M_coughs_II) (t_coughs 58 h hc (i := G 1 (i + 1)) (w := G 1 (i + 2)) (hx _) (hx _)) h98 rfl rfl rfl rfl ⟨by decide, by decide⟩ rfl s
  rw [hk] at k1 l1 i1
  have i1 := i1 rfl
  refine ⟨T2, G2, s2, ?_, hI, hT⟩
  rw [e_L_law_855]
  simp -implicitDefEqProofs (disch := first | assumption | omega | rfl | (simp only [z_up_eq, z_up_app, ↓reduceIte, Nat.reduceEqDiff]; omega)) only [z_lit0, z_lit1, z_lit2, z_litl, iI_add, iI_sub, iI_mul, iI_neg, iI_and, iI_or, iI_xor, iI_shl, iI_shr, iI_ushr, iI_div, iI_b, iI_c, iI_i2l, lI_l2i, lI_add, lI_sub, lI_mul, lI_neg, lI_div, lI_or, lI_and, lI_shl, lI_shr, nI_iI, lg_lt0, lg_gt0, lg_eq0, i_ne0', l_ne0', iI_lt, iI_le, iI_eq, lI_lt, lI_le, lI_eq, zb_0, zb_fit, zb_fit0, zb_fit1, i_one_zero, i_w_in, z_tb0, z_tb1, z_tb2, z_tb3, z_tb4, z_tb5, z_tb6, z_tb7, z_tb8, z_tbl, z_tu0, z_tu1, z_tu2, z_i_62, z_i_63, z_i_86, z_i_88, z_l_Y, z_ui_62, z_ui_63, z_ui_86, z_ui_88, z_ul_Y, z_sz_Y, z_sw_Y, iI_nat, z_ix_t, z_at, Int.add_zero, Int.sub_zero, Int.zero_add, Int.mul_zero, ne_eq, Bool.false_eq_true, Bool.true_eq_false, reduceCtorEq, eq_self, and_true, true_and, and_false, false_and, and_self, not_true_eq_false, not_false_eq_true, decide_true, decide_false, ↓reduceIte, Int.reduceEq, Int.reduceNe, Int.reduceLT, Int.reduceLE, Int.reduceAdd, Int.reduceSub, Int.reduceMul, Int.reduceNeg, Nat.reduceAdd, Nat.reduceEqDiff, Nat.reduceBEq, ↓z_x_eq, z_g_t, z_bI_s, z_bL_s, z_bR_s, z_bV_s, Int.cast_ofNat_Int, beq_self_eq_true, Bool.and_true, Bool.true_and, Bool.and_self, Bool.or_true, Bool.true_or, Bool.false_and, Bool.and_false, Bool.false_or, Bool.or_false, Bool.not_false, Bool.not_true, if_true, if_false, ite_true, ite_false, z_up_eq, z_up_app, z_ro_eq, kT, lT, a1, k1, l1, i1, k80, a2]
theorem lw_22 {i : Int} {N : Nat} (h : z_I S0 c T G) (hc : c < 600) (hk : T.1 1 = (20, N)) (hi : 0 ≤ i ∧ i + 6 ≤ N) (hN : N ≤ 3072) (hx : ∀ k, i_in (G 1 k)) : lw_go S0 c T G s i 888 := by
  have h98 := h.2.2.2.2.2.2.2.2.2.2.1.1
  have kT : ∀ G s, z_kd (z_Y T G s) 1 = 20 := fun G s => by show (T.1 1).1 = 20; rw [hk]
  have lT : ∀ G s, z_ln (z_Y T G s) 1 = N := fun G s => by show (T.1 1).2 = N; rw [hk]
  obtain ⟨v, σ1, T2, G2, s2, a1, a2, hI, hT, k1, l1, k80, i1⟩ := z_pr_go (e1 := 2) (e2 := 0) (mf := d_B_fell) (mg := d_M_fell) (t_fell 50 h hc ) h98 rfl rfl rfl rfl ⟨by decide, by decide⟩ rfl s
  rw [hk] at k1 l1 i1
  have i1 := i1 rfl
  refine ⟨T2, G2, s2, ?_, hI, hT⟩
  rw [e_L_law_888]
  simp -implicitDefEqProofs (disch := first | assumption | omega | rfl | (simp only [z_up_eq, z_up_app, ↓reduceIte, Nat.reduceEqDiff]; omega)) only [z_lit0, z_lit1, z_lit2, z_litl, iI_add, iI_sub, iI_mul, iI_neg, iI_and, iI_or, iI_xor, iI_shl, iI_shr, iI_ushr, iI_div, iI_b, iI_c, iI_i2l, lI_l2i, lI_add, lI_sub, lI_mul, lI_neg, lI_div, lI_or, lI_and, lI_shl, lI_shr, nI_iI, lg_lt0, lg_gt0, lg_eq0, i_ne0', l_ne0', iI_lt, iI_le, iI_eq, lI_lt, lI_le, lI_eq, zb_0, zb_fit, zb_fit0, zb_fit1, i_one_zero, i_w_in, z_tb0, z_tb1, z_tb2, z_tb3, z_tb4, z_tb5, z_tb6, z_tb7, z_tb8, z_tbl, z_tu0, z_tu1, z_tu2, z_i_62, z_i_63, z_i_86, z_i_88, z_l_Y, z_ui_62, z_ui_63, z_ui_86, z_ui_88, z_ul_Y, z_sz_Y, z_sw_Y, iI_nat, z_ix_t, z_at, Int.add_zero, Int.sub_zero, Int.zero_add, Int.mul_zero, ne_eq, Bool.false_eq_true, Bool.true_eq_false, reduceCtorEq, eq_self, and_true, true_and, and_false, false_and, and_self, not_true_eq_false, not_false_eq_true, decide_true, decide_false, ↓reduceIte, Int.reduceEq, Int.reduceNe, Int.reduceLT, Int.reduceLE, Int.reduceAdd, Int.reduceSub, Int.reduceMul, Int.reduceNeg, Nat.reduceAdd, Nat.reduceEqDiff, Nat.reduceBEq, ↓z_x_eq, z_g_t, z_bI_s, z_bL_s, z_bR_s, z_bV_s, Int.cast_ofNat_Int, beq_self_eq_true, Bool.and_true, Bool.true_and, Bool.and_self, Bool.or_true, Bool.true_or, Bool.false_and, Bool.and_false, Bool.false_or, Bool.or_false, Bool.not_false, Bool.not_true, if_true, if_false, ite_true, ite_false, z_up_eq, z_up_app, z_ro_eq, kT, lT, a1, k1, l1, i1, k80, a2]
theorem lw_23 {i : Int} {N : Nat} (h : z_I S0 c T G) (hc : c < 600) (hk : T.1 1 = (20, N)) (hi : 0 ≤ i ∧ i + 6 ≤ N) (hN : N ≤ 3072) (hx : ∀ k, i_in (G 1 k)) : lw_go S0 c T G s i 901 := by
  have h98 := h.2.2.2.2.2.2.2.2.2.2.1.1
  have kT : ∀ G s, z_kd (z_Y T G s) 1 = 20 := fun G s => by show (T.1 1).1 = 20; rw [hk]
  have lT : ∀ G s, z_ln (z_Y T G s) 1 = N := fun G s => by show (T.1 1).2 = N; rw [hk]
  have x1 := hx (i + 1)
  obtain ⟨v, σ1, T2, G2, s2, a1, a2, hI, hT, k1, l1, k80, i1⟩ := z_pr_go (e1 := 2) (e2 := 0) (mf := d_B_whoIsOut) (mg := d_M_whoIsOut) (t_whoIsOut 50 h hc (x := G 1 (i + 1)) (hx _)) h98 rfl rfl rfl rfl ⟨by decide, by decide⟩ rfl s
  rw [hk] at k1 l1 i1
  have i1 := i1 rfl
  refine ⟨T2, G2, s2, ?_, hI, hT⟩
  rw [e_L_law_901]
  simp -implicitDefEqProofs (disch := first | assumption | omega | rfl | (simp only [z_up_eq, z_up_app, ↓reduceIte, Nat.reduceEqDiff]; omega)) only [z_lit0, z_lit1, z_lit2, z_litl, iI_add, iI_sub, iI_mul, iI_neg, iI_and, iI_or, iI_xor, iI_shl, iI_shr, iI_ushr, iI_div, iI_b, iI_c, iI_i2l, lI_l2i, lI_add, lI_sub, lI_mul, lI_neg, lI_div, lI_or, lI_and, lI_shl, lI_shr, nI_iI, lg_lt0, lg_gt0, lg_eq0, i_ne0', l_ne0', iI_lt, iI_le, iI_eq, lI_lt, lI_le, lI_eq, zb_0, zb_fit, zb_fit0, zb_fit1, i_one_zero, i_w_in, z_tb0, z_tb1, z_tb2, z_tb3, z_tb4, z_tb5, z_tb6, z_tb7, z_tb8, z_tbl, z_tu0, z_tu1, z_tu2, z_i_62, z_i_63, z_i_86, z_i_88, z_l_Y, z_ui_62, z_ui_63, z_ui_86, z_ui_88, z_ul_Y, z_sz_Y, z_sw_Y, iI_nat, z_ix_t, z_at, Int.add_zero, Int.sub_zero, Int.zero_add, Int.mul_zero, ne_eq, Bool.false_eq_true, Bool.true_eq_false, reduceCtorEq, eq_self, and_true, true_and, and_false, false_and, and_self, not_true_eq_false, not_false_eq_true, decide_true, decide_false, ↓reduceIte, Int.reduceEq, Int.reduceNe, Int.reduceLT, Int.reduceLE, Int.reduceAdd, Int.reduceSub, Int.reduceMul, Int.reduceNeg, Nat.reduceAdd, Nat.reduceEqDiff, Nat.reduceBEq, ↓z_x_eq, z_g_t, z_bI_s, z_bL_s, z_bR_s, z_bV_s, Int.cast_ofNat_Int, beq_self_eq_true, Bool.and_true, Bool.true_and, Bool.and_self, Bool.or_true, Bool.true_or, Bool.false_and, Bool.and_false, Bool.false_or, Bool.or_false, Bool.not_false, Bool.not_true, if_true, if_false, ite_true, ite_false, z_up_eq, z_up_app, z_ro_eq, kT, lT, a1, k1, l1, i1, k80, a2]
theorem lw_24 {i : Int} {N : Nat} (h : z_I S0 c T G) (hc : c < 600) (hk : T.1 1 = (20, N)) (hi : 0 ≤ i ∧ i + 6 ≤ N) (hN : N ≤ 3072) (hx : ∀ k, i_in (G 1 k)) : lw_go S0 c T G s i 924 := by
  have h98 := h.2.2.2.2.2.2.2.2.2.2.1.1
  have kT : ∀ G s, z_kd (z_Y T G s) 1 = 20 := fun G s => by show (T.1 1).1 = 20; rw [hk]
  have lT : ∀ G s, z_ln (z_Y T G s) 1 = N := fun G s => by show (T.1 1).2 = N; rw [hk]
  have x1 := hx (i + 1)
  have x2 := hx (i + 2)
  obtain ⟨v, σ1, T2, G2, s2, a1, a2, hI, hT, k1, l1, k80, i1⟩ := z_pr_go (e1 := 3) (e2 := 0) (mf := d_B_hiccupped) (mg := d_M_hiccupped) (t_hiccupped 49 h hc (x := G 1 (i + 1)) (i := G 1 (i + 2)) (hx _) (hx _)) h98 rfl rfl rfl rfl ⟨by decide, by decide⟩ rfl s
  rw [hk] at k1 l1 i1
  have i1 := i1 rfl
  refine ⟨T2, G2, s2, ?_, hI, hT⟩
  rw [e_L_law_924]
  simp -implicitDefEqProofs (disch := first | assumption | omega | rfl | (simp only [z_up_eq, z_up_app, ↓reduceIte, Nat.reduceEqDiff]; omega)) only [z_lit0, z_lit1, z_lit2, z_litl, iI_add, iI_sub, iI_mul, iI_neg, iI_and, iI_or, iI_xor, iI_shl, iI_shr, iI_ushr, iI_div, iI_b, iI_c, iI_i2l, lI_l2i, lI_add, lI_sub, lI_mul, lI_neg, lI_div, lI_or, lI_and, lI_shl, lI_shr, nI_iI, lg_lt0, lg_gt0, lg_eq0, i_ne0', l_ne0', iI_lt, iI_le, iI_eq, lI_lt, lI_le, lI_eq, zb_0, zb_fit, zb_fit0, zb_fit1, i_one_zero, i_w_in, z_tb0, z_tb1, z_tb2, z_tb3, z_tb4, z_tb5, z_tb6, z_tb7, z_tb8, z_tbl, z_tu0, z_tu1, z_tu2, z_i_62, z_i_63, z_i_86, z_i_88, z_l_Y, z_ui_62, z_ui_63, z_ui_86, z_ui_88, z_ul_Y, z_sz_Y, z_sw_Y, iI_nat, z_ix_t, z_at, Int.add_zero, Int.sub_zero, Int.zero_add, Int.mul_zero, ne_eq, Bool.false_eq_true, Bool.true_eq_false, reduceCtorEq, eq_self, and_true, true_and, and_false, false_and, and_self, not_true_eq_false, not_false_eq_true, decide_true, decide_false, ↓reduceIte, Int.reduceEq, Int.reduceNe, Int.reduceLT, Int.reduceLE, Int.reduceAdd, Int.reduceSub, Int.reduceMul, Int.reduceNeg, Nat.reduceAdd, Nat.reduceEqDiff, Nat.reduceBEq, ↓z_x_eq, z_g_t, z_bI_s, z_bL_s, z_bR_s, z_bV_s, Int.cast_ofNat_Int, beq_self_eq_true, Bool.and_true, Bool.true_and, Bool.and_self, Bool.or_true, Bool.true_or, Bool.false_and, Bool.and_false, Bool.false_or, Bool.or_false, Bool.not_false, Bool.not_true, if_true, if_false, ite_true, ite_false, z_up_eq, z_up_app, z_ro_eq, kT, lT, a1, k1, l1, i1, k80, a2]
theorem lw_25 {i : Int} {N : Nat} (h : z_I S0 c T G) (hc : c < 600) (hk : T.1 1 = (20, N)) (hi : 0 ≤ i ∧ i + 6 ≤ N) (hN : N ≤ 3072) (hx : ∀ k, i_in (G 1 k)) : lw_go S0 c T G s i 957 := by
  have h98 := h.2.2.2.2.2.2.2.2.2.2.1.1
  have kT : ∀ G s, z_kd (z_Y T G s) 1 = 20 := fun G s => by show (T.1 1).1 = 20; rw [hk]
  have lT : ∀ G s, z_ln (z_Y T G s) 1 = N := fun G s => by show (T.1 1).2 = N; rw [hk]
  have x1 := hx (i + 1)
  have x2 := hx (i + 2)
  have x3 := hx (i + 3)
  obtain ⟨v, σ1, T2, G2, s2, a1, a2, hI, hT, k1, l1, k80, i1⟩ := z_pr_go (e1 := 3) (e2 := 0) (mf := d_B_seated) (mg := d_M_seated) (t_seated 49 h hc (x := G 1 (i + 1)) (y := G 1 (i + 2)) (p := G 1 (i + 3)) (hx _) (hx _) (hx _)) h98 rfl rfl rfl rfl ⟨by decide, by decide⟩ rfl s
  rw [hk] at k1 l1 i1
  have i1 := i1 rfl
  refine ⟨T2, G2, s2, ?_, hI, hT⟩
  rw [e_L_law_957]
  simp -implicitDefEqProofs (disch := first | assumption | omega | rfl | (simp only [z_up_eq, z_up_app, ↓reduceIte, Nat.reduceEqDiff]; omega)) only [z_lit0, z_lit1, z_lit2, z_litl, iI_add, iI_sub, iI_mul, iI_neg, iI_and, iI_or, iI_xor, iI_shl, iI_shr, iI_ushr, iI_div, iI_b, iI_c, iI_i2l, lI_l2i, lI_add, lI_sub, lI_mul, lI_neg, lI_div, lI_or, lI_and, lI_shl, lI_shr, nI_iI, lg_lt0, lg_gt0, lg_eq0, i_ne0', l_ne0', iI_lt, iI_le, iI_eq, lI_lt, lI_le, lI_eq, zb_0, zb_fit, zb_fit0, zb_fit1, i_one_zero, i_w_in, z_tb0, z_tb1, z_tb2, z_tb3, z_tb4, z_tb5, z_tb6, z_tb7, z_tb8, z_tbl, z_tu0, z_tu1, z_tu2, z_i_62, z_i_63, z_i_86, z_i_88, z_l_Y, z_ui_62, z_ui_63, z_ui_86, z_ui_88, z_ul_Y, z_sz_Y, z_sw_Y, iI_nat, z_ix_t, z_at, Int.add_zero, Int.sub_zero, Int.zero_add, Int.mul_zero, ne_eq, Bool.false_eq_true, Bool.true_eq_false, reduceCtorEq, eq_self, and_true, true_and, and_false, false_and, and_self, not_true_eq_false, not_false_eq_true, decide_true, decide_false, ↓reduceIte, Int.reduceEq, Int.reduceNe, Int.reduceLT, Int.reduceLE, Int.reduceAdd, Int.reduceSub, Int.reduceMul, Int.reduceNeg, Nat.reduceAdd, Nat.reduceEqDiff, Nat.reduceBEq, ↓z_x_eq, z_g_t, z_bI_s, z_bL_s, z_bR_s, z_bV_s, Int.cast_ofNat_Int, beq_self_eq_true, Bool.and_true, Bool.true_and, Bool.and_self, Bool.or_true, Bool.true_or, Bool.false_and, Bool.and_false, Bool.false_or, Bool.or_false, Bool.not_false, Bool.not_true, if_true, if_false, ite_true, ite_false, z_up_eq, z_up_app, z_ro_eq, kT, lT, a1, k1, l1, i1, k80, a2]
theorem lw_26 {i : Int} {N : Nat} (h : z_I S0 c T G) (hc : c < 600) (hk : T.1 1 = (20, N)) (hi : 0 ≤ i ∧ i + 6 ≤ N) (hN : N ≤ 3072) (hx : ∀ k, i_in (G 1 k)) : lw_go S0 c T G s i 1000 := by
  have h98 := h.2.2.2.2.2.2.2.2.2.2.1.1
  have kT : ∀ G s, z_kd (z_Y T G s) 1 = 20 := fun G s => by show (T.1 1).1 = 20; rw [hk]
  have lT : ∀ G s, z_ln (z_Y T G s) 1 = N := fun G s => by show (T.1 1).2 = N; rw [hk]
  have x1 := hx (i + 1)
  obtain ⟨v, σ1, T2, G2, s2, a1, a2, hI, hT, k1, l1, k80, i1⟩ := z_pr_go (e1 := 2) (e2 := 0) (mf := d_B_ushers) (mg := d_M_ushers) (t_ushers 50 h hc (x := G 1 (i + 1)) (hx _)) h98 rfl rfl rfl rfl ⟨by decide, by decide⟩ rfl s
  rw [hk] at k1 l1 i1
  have i1 := i1 rfl
  refine ⟨T2, G2, s2, ?_, hI, hT⟩
  rw [e_L_law_1000]
  simp -implicitDefEqProofs (disch := first | assumption | omega | rfl | (simp only [z_up_eq, z_up_app, ↓reduceIte, Nat.reduceEqDiff]; omega)) only [z_lit0, z_lit1, z_lit2, z_litl, iI_add, iI_sub, iI_mul, iI_neg, iI_and, iI_or, iI_xor, iI_shl, iI_shr, iI_ushr, iI_div, iI_b, iI_c, iI_i2l, lI_l2i, lI_add, lI_sub, lI_mul, lI_neg, lI_div, lI_or, lI_and, lI_shl, lI_shr, nI_iI, lg_lt0, lg_gt0, lg_eq0, i_ne0', l_ne0', iI_lt, iI_le, iI_eq, lI_lt, lI_le, lI_eq, zb_0, zb_fit, zb_fit0, zb_fit1, i_one_zero, i_w_in, z_tb0, z_tb1, z_tb2, z_tb3, z_tb4, z_tb5, z_tb6, z_tb7, z_tb8, z_tbl, z_tu0, z_tu1, z_tu2, z_i_62, z_i_63, z_i_86, z_i_88, z_l_Y, z_ui_62, z_ui_63, z_ui_86, z_ui_88, z_ul_Y, z_sz_Y, z_sw_Y, iI_nat, z_ix_t, z_at, Int.add_zero, Int.sub_zero, Int.zero_add, Int.mul_zero, ne_eq, Bool.false_eq_true, Bool.true_eq_false, reduceCtorEq, eq_self, and_true, true_and, and_false, false_and, and_self, not_true_eq_false, not_false_eq_true, decide_true, decide_false, ↓reduceIte, Int.reduceEq, Int.reduceNe, Int.reduceLT, Int.reduceLE, Int.reduceAdd, Int.reduceSub, Int.reduceMul, Int.reduceNeg, Nat.reduceAdd, Nat.reduceEqDiff, Nat.reduceBEq, ↓z_x_eq, z_g_t, z_bI_s, z_bL_s, z_bR_s, z_bV_s, Int.cast_ofNat_Int, beq_self_eq_true, Bool.and_true, Bool.true_and, Bool.and_self, Bool.or_true, Bool.true_or, Bool.false_and, Bool.and_false, Bool.false_or, Bool.or_false, Bool.not_false, Bool.not_true, if_true, if_false, ite_true, ite_false, z_up_eq, z_up_app, z_ro_eq, kT, lT, a1, k1, l1, i1, k80, a2]
theorem lw_27 {i : Int} {N : Nat} (h : z_I S0 c T G) (hc : c < 600) (hk : T.1 1 = (20, N)) (hi : 0 ≤ i ∧ i + 6 ≤ N) (hN : N ≤ 3072) (hx : ∀ k, i_in (G 1 k)) : lw_go S0 c T G s i 1023 := by
  have h98 := h.2.2.2.2.2.2.2.2.2.2.1.1
  have kT : ∀ G s, z_kd (z_Y T G s) 1 = 20 := fun G s => by show (T.1 1).1 = 20; rw [hk]
  have lT : ∀ G s, z_ln (z_Y T G s) 1 = N := fun G s => by show (T.1 1).2 = N; rw [hk]
  obtain ⟨v, σ1, T2, G2, s2, a1, a2, hI, hT, k1, l1, k80, i1⟩ := z_pr_go (e1 := 1) (e2 := 0) (mf := d_B_cannot) (mg := d_M_cannot) (t_cannot 50 h hc ) h98 rfl rfl rfl rfl ⟨by decide, by decide⟩ rfl s
  rw [hk] at k1 l1 i1
  have i1 := i1 rfl
  refine ⟨T2, G2, s2, ?_, hI, hT⟩
  rw [e_L_law_1023]
  simp -implicitDefEqProofs (disch := first | assumption | omega | rfl | (simp only [z_up_eq, z_up_app, ↓reduceIte, Nat.reduceEqDiff]; omega)) only [z_lit0, z_lit1, z_lit2, z_litl, iI_add, iI_sub, iI_mul, iI_neg, iI_and, iI_or, iI_xor, iI_shl, iI_shr, iI_ushr, iI_div, iI_b, iI_c, iI_i2l, lI_l2i, lI_add, lI_sub, lI_mul, lI_neg, lI_div, lI_or, lI_and, lI_shl, lI_shr, nI_iI, lg_lt0, lg_gt0, lg_eq0, i_ne0', l_ne0', iI_lt, iI_le, iI_eq, lI_lt, lI_le, lI_eq, zb_0, zb_fit, zb_fit0, zb_fit1, i_one_zero, i_w_in, z_tb0, z_tb1, z_tb2, z_tb3, z_tb4, z_tb5, z_tb6, z_tb7, z_tb8, z_tbl, z_tu0, z_tu1, z_tu2, z_i_62, z_i_63, z_i_86, z_i_88, z_l_Y, z_ui_62, z_ui_63, z_ui_86, z_ui_88, z_ul_Y, z_sz_Y, z_sw_Y, iI_nat, z_ix_t, z_at, Int.add_zero, Int.sub_zero, Int.zero_add, Int.mul_zero, ne_eq, Bool.false_eq_true, Bool.true_eq_false, reduceCtorEq, eq_self, and_true, true_and, and_false, false_and, and_self, not_true_eq_false, not_false_eq_true, decide_true, decide_false, ↓reduceIte, Int.reduceEq, Int.reduceNe, Int.reduceLT, Int.reduceLE, Int.reduceAdd, Int.reduceSub, Int.reduceMul, Int.reduceNeg, Nat.reduceAdd, Nat.reduceEqDiff, Nat.reduceBEq, ↓z_x_eq, z_g_t, z_bI_s, z_bL_s, z_bR_s, z_bV_s, Int.cast_ofNat_Int, beq_self_eq_true, Bool.and_true, Bool.true_and, Bool.and_self, Bool.or_true, Bool.true_or, Bool.false_and, Bool.and_false, Bool.false_or, Bool.or_false, Bool.not_false, Bool.not_true, if_true, if_false, ite_true, ite_false, z_up_eq, z_up_app, z_ro_eq, kT, lT, a1, k1, l1, i1, k80, a2]
end

/-! THE PURE PART, 112: the law's calls (printed by gen/law99.py) -/
def lw_go (S0 : ZG) (c : Int) (T : ZT) (G : ZG) (s : ZG × ZG) (i : Int) (pc : Nat) : Prop := ∃ T2 G2 s2, z_w d_L_law (z_call 60) pc [some (vr 1), some (vr 10), some (vr 80), some (vi (iI i))] [] (z_Y T G s) = z_w d_L_law (z_call 60) 1487 [some (vr 1), some (vr 10), some (vr 80), some (vi (iI i))] [] (z_Y T2 G2 s2) ∧ z_I S0 (c + 1) T2 G2 ∧ T2.1 1 = T.1 1
section
variable {S0 : ZG} {c : Int} {T : ZT} {G : ZG} {s : ZG × ZG}
theorem lw_0 {i : Int} {N : Nat} (h : z_I S0 c T G) (hc : c < 600) (hk : T.1 1 = (20, N)) (hi : 0 ≤ i ∧ i + 6 ≤ N) (hN : N ≤ 3072) (hx : ∀ k, i_in (G 1 k)) : lw_go S0 c T G s i 216 := by
  have h98 := h.2.2.2.2.2.2.2.2.2.2.1.1
  have kT : ∀ G s, z_kd (z_Y T G s) 1 = 20 := fun G s => by show (T.1 1).1 = 20; rw [hk]
  have lT : ∀ G s, z_ln (z_Y T G s) 1 = N := fun G s => by show (T.1 1).2 = N; rw [hk]
  have x1 := hx (i + 1)
  have x2 := hx (i + 2)
  obtain ⟨v, σ1, T2, G2, s2, a1, a2, hI, hT, k1, l1, k80, i1⟩ := z_pr_go (e1 := 0) (e2 := 1) (mf := d_B_seat) (mg := d_M_seat) (t_seat 57 h hc (p := G 1 (i + 1)) (w := G 1 (i + 2)) (hx _) (hx _)) h98 rfl rfl rfl rfl ⟨by decide, by decide⟩ rfl s
  rw [hk] at k1 l1 i1
  have i1 := i1 rfl
  refine ⟨T2, G2, s2, ?_, hI, hT⟩
  rw [e_L_law_216]
  simp -implicitDefEqProofs (disch := first | assumption | omega | rfl | (simp only [z_up_eq, z_up_app, ↓reduceIte, Nat.reduceEqDiff]; omega)) only [z_lit0, z_lit1, z_lit2, z_litl, iI_add, iI_sub, iI_mul, iI_neg, iI_and, iI_or, iI_xor, iI_shl, iI_shr, iI_ushr, iI_div, iI_b, iI_c, iI_i2l, lI_l2i, lI_add, lI_sub, lI_mul, lI_neg, lI_div, lI_or, lI_and, lI_shl, lI_shr, nI_iI, lg_lt0, lg_gt0, lg_eq0, i_ne0', l_ne0', iI_lt, iI_le, iI_eq, lI_lt, lI_le, lI_eq, zb_0, zb_fit, zb_fit0, zb_fit1, i_one_zero, i_w_in, z_tb0, z_tb1, z_tb2, z_tb3, z_tb4, z_tb5, z_tb6, z_tb7, z_tb8, z_tbl, z_tu0, z_tu1, z_tu2, z_i_62, z_i_63, z_i_86, z_i_88, z_l_Y, z_ui_62, z_ui_63, z_ui_86, z_ui_88, z_ul_Y, z_sz_Y, z_sw_Y, iI_nat, z_ix_t, z_at, Int.add_zero, Int.sub_zero, Int.zero_add, Int.mul_zero, ne_eq, Bool.false_eq_true, Bool.true_eq_false, reduceCtorEq, eq_self, and_true, true_and, and_false, false_and, and_self, not_true_eq_false, not_false_eq_true, decide_true, decide_false, ↓reduceIte, Int.reduceEq, Int.reduceNe, Int.reduceLT, Int.reduceLE, Int.reduceAdd, Int.reduceSub, Int.reduceMul, Int.reduceNeg, Nat.reduceAdd, Nat.reduceEqDiff, Nat.reduceBEq, ↓z_x_eq, z_g_t, z_bI_s, z_bL_s, z_bR_s, z_bV_s, Int.cast_ofNat_Int, beq_self_eq_true, Bool.and_true, Bool.true_and, Bool.and_self, Bool.or_true, Bool.true_or, Bool.false_and, Bool.and_false, Bool.false_or, Bool.or_false, Bool.not_false, Bool.not_true, if_true, if_false, ite_true, ite_false, z_up_eq, z_up_app, z_ro_eq, kT, lT, a1, k1, l1, i1, k80, a2]
theorem lw_1 {i : Int} {N : Nat} (h : z_I S0 c T G) (hc : c < 600) (hk : T.1 1 = (20, N)) (hi : 0 ≤ i ∧ i + 6 ≤ N) (hN : N ≤ 3072) (hx : ∀ k, i_in (G 1 k)) : lw_go S0 c T G s i 249 := by
  have h98 := h.2.2.2.2.2.2.2.2.2.2.1.1
  have kT : ∀ G s, z_kd (z_Y T G s) 1 = 20 := fun G s => by show (T.1 1).1 = 20; rw [hk]
  have lT : ∀ G s, z_ln (z_Y T G s) 1 = N := fun G s => by show (T.1 1).2 = N; rw [hk]
  have x1 := hx (i + 1)
  have x2 := hx (i + 2)
  have x3 := hx (i + 3)
  obtain ⟨v, σ1, T2, G2, s2, a1, a2, hI, hT, k1, l1, k80, i1⟩ := z_pr_go (e1 := 0) (e2 := 1) (mf := d_B_person) (mg := d_M_person) (t_person 57 h hc (p := G 1 (i + 1)) (w := G 1 (i + 2)) (z := G 1 (i + 3)) (hx _) (hx _) (hx _)) h98 rfl rfl rfl rfl ⟨by decide, by decide⟩ rfl s
  rw [hk] at k1 l1 i1
  have i1 := i1 rfl
  refine ⟨T2, G2, s2, ?_, hI, hT⟩
  rw [e_L_law_249]
  simp -implicitDefEqProofs (disch := first | assumption | omega | rfl | (simp only [z_up_eq, z_up_app, ↓reduceIte, Nat.reduceEqDiff]; omega)) only [z_lit0, z_lit1, z_lit2, z_litl, iI_add, iI_sub, iI_mul, iI_neg, iI_and, iI_or, iI_xor, iI_shl, iI_shr, iI_ushr, iI_div, iI_b, iI_c, iI_i2l, lI_l2i, lI_add, lI_sub, lI_mul, lI_neg, lI_div, lI_or, lI_and, lI_shl, lI_shr, nI_iI, lg_lt0, lg_gt0, lg_eq0, i_ne0', l_ne0', iI_lt, iI_le, iI_eq, lI_lt, lI_le, lI_eq, zb_0, zb_fit, zb_fit0, zb_fit1, i_one_zero, i_w_in, z_tb0, z_tb1, z_tb2, z_tb3, z_tb4, z_tb5, z_tb6, z_tb7, z_tb8, z_tbl, z_tu0, z_tu1, z_tu2, z_i_62, z_i_63, z_i_86, z_i_88, z_l_Y, z_ui_62, z_ui_63, z_ui_86, z_ui_88, z_ul_Y, z_sz_Y, z_sw_Y, iI_nat, z_ix_t, z_at, Int.add_zero, Int.sub_zero, Int.zero_add, Int.mul_zero, ne_eq, Bool.false_eq_true, Bool.true_eq_false, reduceCtorEq, eq_self, and_true, true_and, and_false, false_and, and_self, not_true_eq_false, not_false_eq_true, decide_true, decide_false, ↓reduceIte, Int.reduceEq, Int.reduceNe, Int.reduceLT, Int.reduceLE, Int.reduceAdd, Int.reduceSub, Int.reduceMul, Int.reduceNeg, Nat.reduceAdd, Nat.reduceEqDiff, Nat.reduceBEq, ↓z_x_eq, z_g_t, z_bI_s, z_bL_s, z_bR_s, z_bV_s, Int.cast_ofNat_Int, beq_self_eq_true, Bool.and_true, Bool.true_and, Bool.and_self, Bool.or_true, Bool.true_or, Bool.false_and, Bool.and_false, Bool.false_or, Bool.or_false, Bool.not_false, Bool.not_true, if_true, if_false, ite_true, ite_false, z_up_eq, z_up_app, z_ro_eq, kT, lT, a1, k1, l1, i1, k80, a2]
theorem lw_2 {i : Int} {N : Nat} (h : z_I S0 c T G) (hc : c < 600) (hk : T.1 1 = (20, N)) (hi : 0 ≤ i ∧ i + 6 ≤ N) (hN : N ≤ 3072) (hx : ∀ k, i_in (G 1 k)) : lw_go S0 c T G s i 292 := by
  have h98 := h.2.2.2.2.2.2.2.2.2.2.1.1
  have kT : ∀ G s, z_kd (z_Y T G s) 1 = 20 := fun G s => by show (T.1 1).1 = 20; rw [hk]
  have lT : ∀ G s, z_ln (z_Y T G s) 1 = N := fun G s => by show (T.1 1).2 = N; rw [hk]
  have x1 := hx (i + 1)
  have x2 := hx (i + 2)
  obtain ⟨v, σ1, T2, G2, s2, a1, a2, hI, hT, k1, l1, k80, i1⟩ := z_pr_go (e1 := 0) (e2 := 1) (mf := d_B_note) (mg := d_M_note) (t_note 57 h hc (p := G 1 (i + 1)) (w := G 1 (i + 2)) (hx _) (hx _)) h98 rfl rfl rfl rfl ⟨by decide, by decide⟩ rfl s
  rw [hk] at k1 l1 i1
  have i1 := i1 rfl
  refine ⟨T2, G2, s2, ?_, hI, hT⟩
  rw [e_L_law_292]
  simp -implicitDefEqProofs (disch := first | assumption | omega | rfl | (simp only [z_up_eq, z_up_app, ↓reduceIte, Nat.reduceEqDiff]; omega)) only [z_lit0, z_lit1, z_lit2, z_litl, iI_add, iI_sub, iI_mul, iI_neg, iI_and, iI_or, iI_xor, iI_shl, iI_shr, iI_ushr, iI_div, iI_b, iI_c, iI_i2l, lI_l2i, lI_add, lI_sub, lI_mul, lI_neg, lI_div, lI_or, lI_and, lI_shl, lI_shr, nI_iI, lg_lt0, lg_gt0, lg_eq0, i_ne0', l_ne0', iI_lt, iI_le, iI_eq, lI_lt, lI_le, lI_eq, zb_0, zb_fit, zb_fit0, zb_fit1, i_one_zero, i_w_in, z_tb0, z_tb1, z_tb2, z_tb3, z_tb4, z_tb5, z_tb6, z_tb7, z_tb8, z_tbl, z_tu0, z_tu1, z_tu2, z_i_62, z_i_63, z_i_86, z_i_88, z_l_Y, z_ui_62, z_ui_63, z_ui_86, z_ui_88, z_ul_Y, z_sz_Y, z_sw_Y, iI_nat, z_ix_t, z_at, Int.add_zero, Int.sub_zero, Int.zero_add, Int.mul_zero, ne_eq, Bool.false_eq_true, Bool.true_eq_false, reduceCtorEq, eq_self, and_true, true_and, and_false, false_and, and_self, not_true_eq_false, not_false_eq_true, decide_true, decide_false, ↓reduceIte, Int.reduceEq, Int.reduceNe, Int.reduceLT, Int.reduceLE, Int.reduceAdd, Int.reduceSub, Int.reduceMul, Int.reduceNeg, Nat.reduceAdd, Nat.reduceEqDiff, Nat.reduceBEq, ↓z_x_eq, z_g_t, z_bI_s, z_bL_s, z_bR_s, z_bV_s, Int.cast_ofNat_Int, beq_self_eq_true, Bool.and_true, Bool.true_and, Bool.and_self, Bool.or_true, Bool.true_or, Bool.false_and, Bool.and_false, Bool.false_or, Bool.or_false, Bool.not_false, Bool.not_true, if_true, if_false, ite_true, ite_false, z_up_eq, z_up_app, z_ro_eq, kT, lT, a1, k1, l1, i1, k80, a2]
theorem lw_3 {i : Int} {N : Nat} (h : z_I S0 c T G) (hc : c < 600) (hk : T.1 1 = (20, N)) (hi : 0 ≤ i ∧ i + 6 ≤ N) (hN : N ≤ 3072) (hx : ∀ k, i_in (G 1 k)) : lw_go S0 c T G s i 325 := by
  have h98 := h.2.2.2.2.2.2.2.2.2.2.1.1
  have kT : ∀ G s, z_kd (z_Y T G s) 1 = 20 := fun G s => by show (T.1 1).1 = 20; rw [hk]
  have lT : ∀ G s, z_ln (z_Y T G s) 1 = N := fun G s => by show (T.1 1).2 = N; rw [hk]
  have x1 := hx (i + 1)
  have x2 := hx (i + 2)
  have x3 := hx (i + 3)
  have x4 := hx (i + 4)
  have x5 := hx (i + 5)
  obtain ⟨v, σ1, T2, G2, s2, a1, a2, hI, hT, k1, l1, k80, i1⟩ := z_pr_go (e1 := 0) (e2 := 0) (mf := d_B_feed) (mg := d_M_feed) (t_feed 58 h hc (x1 := G 1 (i + 1)) (x2 := G 1 (i + 2)) (x3 := G 1 (i + 3)) (x4 := G 1 (i + 4)) (x5 := G 1 (i + 5))) h98 rfl rfl rfl rfl ⟨by decide, by decide⟩ rfl s
  rw [hk] at k1 l1 i1
  have i1 := i1 rfl
  refine ⟨T2, G2, s2, ?_, hI, hT⟩
  rw [e_L_law_325]
  simp -implicitDefEqProofs (disch := first | assumption | omega | rfl | (simp only [z_up_eq, z_up_app, ↓reduceIte, Nat.reduceEqDiff]; omega)) only [z_lit0, z_lit1, z_lit2, z_litl, iI_add, iI_sub, iI_mul, iI_neg, iI_and, iI_or, iI_xor, iI_shl, iI_shr, iI_ushr, iI_div, iI_b, iI_c, iI_i2l, lI_l2i, lI_add, lI_sub, lI_mul, lI_neg, lI_div, lI_or, lI_and, lI_shl, lI_shr, nI_iI, lg_lt0, lg_gt0, lg_eq0, i_ne0', l_ne0', iI_lt, iI_le, iI_eq, lI_lt, lI_le, lI_eq, zb_0, zb_fit, zb_fit0, zb_fit1, i_one_zero, i_w_in, z_tb0, z_tb1, z_tb2, z_tb3, z_tb4, z_tb5, z_tb6, z_tb7, z_tb8, z_tbl, z_tu0, z_tu1, z_tu2, z_i_62, z_i_63, z_i_86, z_i_88, z_l_Y, z_ui_62, z_ui_63, z_ui_86, z_ui_88, z_ul_Y, z_sz_Y, z_sw_Y, iI_nat, z_ix_t, z_at, Int.add_zero, Int.sub_zero, Int.zero_add, Int.mul_zero, ne_eq, Bool.false_eq_true, Bool.true_eq_false, reduceCtorEq, eq_self, and_true, true_and, and_false, false_and, and_self, not_true_eq_false, not_false_eq_true, decide_true, decide_false, ↓reduceIte, Int.reduceEq, Int.reduceNe, Int.reduceLT, Int.reduceLE, Int.reduceAdd, Int.reduceSub, Int.reduceMul, Int.reduceNeg, Nat.reduceAdd, Nat.reduceEqDiff, Nat.reduceBEq, ↓z_x_eq, z_g_t, z_bI_s, z_bL_s, z_bR_s, z_bV_s, Int.cast_ofNat_Int, beq_self_eq_true, Bool.and_true, Bool.true_and, Bool.and_self, Bool.or_true, Bool.true_or, Bool.false_and, Bool.and_false, Bool.false_or, Bool.or_false, Bool.not_false, Bool.not_true, if_true, if_false, ite_true, ite_false, z_up_eq, z_up_app, z_ro_eq, kT, lT, a1, k1, l1, i1, k80, a2]
theorem lw_4 {i : Int} {N : Nat} (h : z_I S0 c T G) (hc : c < 600) (hk : T.1 1 = (20, N)) (hi : 0 ≤ i ∧ i + 6 ≤ N) (hN : N ≤ 3072) (hx : ∀ k, i_in (G 1 k)) : lw_go S0 c T G s i 388 := by
  have h98 := h.2.2.2.2.2.2.2.2.2.2.1.1
  have kT : ∀ G s, z_kd (z_Y T G s) 1 = 20 := fun G s => by show (T.1 1).1 = 20; rw [hk]
  have lT : ∀ G s, z_ln (z_Y T G s) 1 = N := fun G s => by show (T.1 1).2 = N; rw [hk]
  have x1 := hx (i + 1)
  obtain ⟨v, σ1, T2, G2, s2, a1, a2, hI, hT, k1, l1, k80, i1⟩ := z_pr_go (e1 := 1) (e2 := 0) (mf := d_B_end) (mg := d_M_end) (t_end 58 h hc (n := G 1 (i + 1)) (hx _)) h98 rfl rfl rfl rfl ⟨by decide, by decide⟩ rfl s
  rw [hk] at k1 l1 i1
  have i1 := i1 rfl
  refine ⟨T2, G2, s2, ?_, hI, hT⟩
  rw [e_L_law_388]
  simp -implicitDefEqProofs (disch := first | assumption | omega | rfl | (simp only [z_up_eq, z_up_app, ↓reduceIte, Nat.reduceEqDiff]; omega)) only [z_lit0, z_lit1, z_lit2, z_litl, iI_add, iI_sub, iI_mul, iI_neg, iI_and, iI_or, iI_xor, iI_shl, iI_shr, iI_ushr, iI_div, iI_b, iI_c, iI_i2l, lI_l2i, lI_add, lI_sub, lI_mul, lI_neg, lI_div, lI_or, lI_and, lI_shl, lI_shr, nI_iI, lg_lt0, lg_gt0, lg_eq0, i_ne0', l_ne0', iI_lt, iI_le, iI_eq, lI_lt, lI_le, lI_eq, zb_0, zb_fit, zb_fit0, zb_fit1, i_one_zero, i_w_in, z_tb0, z_tb1, z_tb2, z_tb3, z_tb4, z_tb5, z_tb6, z_tb7, z_tb8, z_tbl, z_tu0, z_tu1, z_tu2, z_i_62, z_i_63, z_i_86, z_i_88, z_l_Y, z_ui_62, z_ui_63, z_ui_86, z_ui_88, z_ul_Y, z_sz_Y, z_sw_Y, iI_nat, z_ix_t, z_at, Int.add_zero, Int.sub_zero, Int.zero_add, Int.mul_zero, ne_eq, Bool.false_eq_true, Bool.true_eq_false, reduceCtorEq, eq_self, and_true, true_and, and_false, false_and, and_self, not_true_eq_false, not_false_eq_true, decide_true, decide_false, ↓reduceIte, Int.reduceEq, Int.reduceNe, Int.reduceLT, Int.reduceLE, Int.reduceAdd, Int.reduceSub, Int.reduceMul, Int.reduceNeg, Nat.reduceAdd, Nat.reduceEqDiff, Nat.reduceBEq, ↓z_x_eq, z_g_t, z_bI_s, z_bL_s, z_bR_s, z_bV_s, Int.cast_ofNat_Int, beq_self_eq_true, Bool.and_true, Bool.true_and, Bool.and_self, Bool.or_true, Bool.true_or, Bool.false_and, Bool.and_false, Bool.false_or, Bool.or_false, Bool.not_false, Bool.not_true, if_true, if_false, ite_true, ite_false, z_up_eq, z_up_app, z_ro_eq, kT, lT, a1, k1, l1, i1, k80, a2]
theorem lw_5 {i : Int} {N : Nat} (h : z_I S0 c T G) (hc : c < 600) (hk : T.1 1 = (20, N)) (hi : 0 ≤ i ∧ i + 6 ≤ N) (hN : N ≤ 3072) (hx : ∀ k, i_in (G 1 k)) (hS : y_S S0) : lw_go S0 c T G s i 411 := by
  have h98 := h.2.2.2.2.2.2.2.2.2.2.1.1
  have kT : ∀ G s, z_kd (z_Y T G s) 1 = 20 := fun G s => by show (T.1 1).1 = 20; rw [hk]
  have lT : ∀ G s, z_ln (z_Y T G s) 1 = N := fun G s => by show (T.1 1).2 = N; rw [hk]
  obtain ⟨v, σ1, T2, G2, s2, a1, a2, hI, hT, k1, l1, k80, i1⟩ := z_pr_go (e1 := 0) (e2 := 0) (mf := d_B_text) (mg := d_M_text) (t_text (E := 60) (by omega) hS h hc ) h98 rfl rfl rfl rfl ⟨by decide, by decide⟩ rfl s
  rw [hk] at k1 l1 i1
  have i1 := i1 rfl
  refine ⟨T2, G2, s2, ?_, hI, hT⟩
  rw [e_L_law_411]
  simp -implicitDefEqProofs (disch := first | assumption | omega | rfl | (simp only [z_up_eq, z_up_app, ↓reduceIte, Nat.reduceEqDiff]; omega)) only [z_lit0, z_lit1, z_lit2, z_litl, iI_add, iI_sub, iI_mul, iI_neg, iI_and, iI_or, iI_xor, iI_shl, iI_shr, iI_ushr, iI_div, iI_b, iI_c, iI_i2l, lI_l2i, lI_add, lI_sub, lI_mul, lI_neg, lI_div, lI_or, lI_and, lI_shl, lI_shr, nI_iI, lg_lt0, lg_gt0, lg_eq0, i_ne0', l_ne0', iI_lt, iI_le, iI_eq, lI_lt, lI_le, lI_eq, zb_0, zb_fit, zb_fit0, zb_fit1, i_one_zero, i_w_in, z_tb0, z_tb1, z_tb2, z_tb3, z_tb4, z_tb5, z_tb6, z_tb7, z_tb8, z_tbl, z_tu0, z_tu1, z_tu2, z_i_62, z_i_63, z_i_86, z_i_88, z_l_Y, z_ui_62, z_ui_63, z_ui_86, z_ui_88, z_ul_Y, z_sz_Y, z_sw_Y, iI_nat, z_ix_t, z_at, Int.add_zero, Int.sub_zero, Int.zero_add, Int.mul_zero, ne_eq, Bool.false_eq_true, Bool.true_eq_false, reduceCtorEq, eq_self, and_true, true_and, and_false, false_and, and_self, not_true_eq_false, not_false_eq_true, decide_true, decide_false, ↓reduceIte, Int.reduceEq, Int.reduceNe, Int.reduceLT, Int.reduceLE, Int.reduceAdd, Int.reduceSub, Int.reduceMul, Int.reduceNeg, Nat.reduceAdd, Nat.reduceEqDiff, Nat.reduceBEq, ↓z_x_eq, z_g_t, z_bI_s, z_bL_s, z_bR_s, z_bV_s, Int.cast_ofNat_Int, beq_self_eq_true, Bool.and_true, Bool.true_and, Bool.and_self, Bool.or_true, Bool.true_or, Bool.false_and, Bool.and_false, Bool.false_or, Bool.or_false, Bool.not_false, Bool.not_true, if_true, if_false, ite_true, ite_false, z_up_eq, z_up_app, z_ro_eq, kT, lT, a1, k1, l1, i1, k80, a2]
theorem lw_6 {i : Int} {N : Nat} (h : z_I S0 c T G) (hc : c < 600) (hk : T.1 1 = (20, N)) (hi : 0 ≤ i ∧ i + 6 ≤ N) (hN : N ≤ 3072) (hx : ∀ k, i_in (G 1 k)) : lw_go S0 c T G s i 424 := by
  have h98 := h.2.2.2.2.2.2.2.2.2.2.1.1
  have kT : ∀ G s, z_kd (z_Y T G s) 1 = 20 := fun G s => by show (T.1 1).1 = 20; rw [hk]
  have lT : ∀ G s, z_ln (z_Y T G s) 1 = N := fun G s => by show (T.1 1).2 = N; rw [hk]
  have x1 := hx (i + 1)
  obtain ⟨v, σ1, T2, G2, s2, a1, a2, hI, hT, k1, l1, k80, i1⟩ := z_pr_go (e1 := 0) (e2 := 0) (mf := d_B_fault) (mg := d_M_fault) (t_fault 59 h hc (n := G 1 (i + 1)) (hx _)) h98 rfl rfl rfl rfl ⟨by decide, by decide⟩ rfl s
  rw [hk] at k1 l1 i1
  have i1 := i1 rfl
  refine ⟨T2, G2, s2, ?_, hI, hT⟩
  rw [e_L_law_424]
  simp -implicitDefEqProofs (disch := first | assumption | omega | rfl | (simp only [z_up_eq, z_up_app, ↓reduceIte, Nat.reduceEqDiff]; omega)) only [z_lit0, z_lit1, z_lit2, z_litl, iI_add, iI_sub, iI_mul, iI_neg, iI_and, iI_or, iI_xor, iI_shl, iI_shr, iI_ushr, iI_div, iI_b, iI_c, iI_i2l, lI_l2i, lI_add, lI_sub, lI_mul, lI_neg, lI_div, lI_or, lI_and, lI_shl, lI_shr, nI_iI, lg_lt0, lg_gt0, lg_eq0, i_ne0', l_ne0', iI_lt, iI_le, iI_eq, lI_lt, lI_le, lI_eq, zb_0, zb_fit, zb_fit0, zb_fit1, i_one_zero, i_w_in, z_tb0, z_tb1, z_tb2, z_tb3, z_tb4, z_tb5, z_tb6, z_tb7, z_tb8, z_tbl, z_tu0, z_tu1, z_tu2, z_i_62, z_i_63, z_i_86, z_i_88, z_l_Y, z_ui_62, z_ui_63, z_ui_86, z_ui_88, z_ul_Y, z_sz_Y, z_sw_Y, iI_nat, z_ix_t, z_at, Int.add_zero, Int.sub_zero, Int.zero_add, Int.mul_zero, ne_eq, Bool.false_eq_true, Bool.true_eq_false, reduceCtorEq, eq_self, and_true, true_and, and_false, false_and, and_self, not_true_eq_false, not_false_eq_true, decide_true, decide_false, ↓reduceIte, Int.reduceEq, Int.reduceNe, Int.reduceLT, Int.reduceLE, Int.reduceAdd, Int.reduceSub, Int.reduceMul, Int.reduceNeg, Nat.reduceAdd, Nat.reduceEqDiff, Nat.reduceBEq, ↓z_x_eq, z_g_t, z_bI_s, z_bL_s, z_bR_s, z_bV_s, Int.cast_ofNat_Int, beq_self_eq_true, Bool.and_true, Bool.true_and, Bool.and_self, Bool.or_true, Bool.true_or, Bool.false_and, Bool.and_false, Bool.false_or, Bool.or_false, Bool.not_false, Bool.not_true, if_true, if_false, ite_true, ite_false, z_up_eq, z_up_app, z_ro_eq, kT, lT, a1, k1, l1, i1, k80, a2]
theorem lw_7 {i : Int} {N : Nat} (h : z_I S0 c T G) (hc : c < 600) (hk : T.1 1 = (20, N)) (hi : 0 ≤ i ∧ i + 6 ≤ N) (hN : N ≤ 3072) (hx : ∀ k, i_in (G 1 k)) : lw_go S0 c T G s i 447 := by
  have h98 := h.2.2.2.2.2.2.2.2.2.2.1.1
  have kT : ∀ G s, z_kd (z_Y T G s) 1 = 20 := fun G s => by show (T.1 1).1 = 20; rw [hk]
  have lT : ∀ G s, z_ln (z_Y T G s) 1 = N := fun G s => by show (T.1 1).2 = N; rw [hk]
  have x1 := hx (i + 1)
  obtain ⟨v, σ1, T2, G2, s2, a1, a2, hI, hT, k1, l1, k80, i1⟩ := z_pr_go (e1 := 0) (e2 := 0) (mf := d_B_by) (mg := d_M_by) (t_by 58 h hc (x := G 1 (i + 1)) (hx _)) h98 rfl rfl rfl rfl ⟨by decide, by decide⟩ rfl s
  rw [hk] at k1 l1 i1
  have i1 := i1 rfl
  refine ⟨T2, G2, s2, ?_, hI, hT⟩
  rw [e_L_law_447]
  simp -implicitDefEqProofs (disch := first | assumption | omega | rfl | (simp only [z_up_eq, z_up_app, ↓reduceIte, Nat.reduceEqDiff]; omega)) only [z_lit0, z_lit1, z_lit2, z_litl, iI_add, iI_sub, iI_mul, iI_neg, iI_and, iI_or, iI_xor, iI_shl, iI_shr, iI_ushr, iI_div, iI_b, iI_c, iI_i2l, lI_l2i, lI_add, lI_sub, lI_mul, lI_neg, lI_div, lI_or, lI_and, lI_shl, lI_shr, nI_iI, lg_lt0, lg_gt0, lg_eq0, i_ne0', l_ne0', iI_lt, iI_le, iI_eq, lI_lt, lI_le, lI_eq, zb_0, zb_fit, zb_fit0, zb_fit1, i_one_zero, i_w_in, z_tb0, z_tb1, z_tb2, z_tb3, z_tb4, z_tb5, z_tb6, z_tb7, z_tb8, z_tbl, z_tu0, z_tu1, z_tu2, z_i_62, z_i_63, z_i_86, z_i_88, z_l_Y, z_ui_62, z_ui_63, z_ui_86, z_ui_88, z_ul_Y, z_sz_Y, z_sw_Y, iI_nat, z_ix_t, z_at, Int.add_zero, Int.sub_zero, Int.zero_add, Int.mul_zero, ne_eq, Bool.false_eq_true, Bool.true_eq_false, reduceCtorEq, eq_self, and_true, true_and, and_false, false_and, and_self, not_true_eq_false, not_false_eq_true, decide_true, decide_false, ↓reduceIte, Int.reduceEq, Int.reduceNe, Int.reduceLT, Int.reduceLE, Int.reduceAdd, Int.reduceSub, Int.reduceMul, Int.reduceNeg, Nat.reduceAdd, Nat.reduceEqDiff, Nat.reduceBEq, ↓z_x_eq, z_g_t, z_bI_s, z_bL_s, z_bR_s, z_bV_s, Int.cast_ofNat_Int, beq_self_eq_true, Bool.and_true, Bool.true_and, Bool.and_self, Bool.or_true, Bool.true_or, Bool.false_and, Bool.and_false, Bool.false_or, Bool.or_false, Bool.not_false, Bool.not_true, if_true, if_false, ite_true, ite_false, z_up_eq, z_up_app, z_ro_eq, kT, lT, a1, k1, l1, i1, k80, a2]
theorem lw_8 {i : Int} {N : Nat} (h : z_I S0 c T G) (hc : c < 600) (hk : T.1 1 = (20, N)) (hi : 0 ≤ i ∧ i + 6 ≤ N) (hN : N ≤ 3072) (hx : ∀ k, i_in (G 1 k)) : lw_go S0 c T G s i 470 := by
  have h98 := h.2.2.2.2.2.2.2.2.2.2.1.1
  have kT : ∀ G s, z_kd (z_Y T G s) 1 = 20 := fun G s => by show (T.1 1).1 = 20; rw [hk]
  have lT : ∀ G s, z_ln (z_Y T G s) 1 = N := fun G s => by show (T.1 1).2 = N; rw [hk]
  have x1 := hx (i + 1)
  have x2 := hx (i + 2)
  obtain ⟨v, σ1, T2, G2, s2, a1, a2, hI, hT, k1, l1, k80, i1⟩ := z_pr_go (e1 := 0) (e2 := 2) (mf := d_B_sit) (mg := d_M_sit) (t_sit 55 h hc (p := G 1 (i + 1)) (w := G 1 (i + 2)) (hx _) (hx _)) h98 rfl rfl rfl rfl ⟨by decide, by decide⟩ rfl s
  rw [hk] at k1 l1 i1
  have i1 := i1 rfl
  refine ⟨T2, G2, s2, ?_, hI, hT⟩
  rw [e_L_law_470]
  simp -implicitDefEqProofs (disch := first | assumption | omega | rfl | (simp only [z_up_eq, z_up_app, ↓reduceIte, Nat.reduceEqDiff]; omega)) only [z_lit0, z_lit1, z_lit2, z_litl, iI_add, iI_sub, iI_mul, iI_neg, iI_and, iI_or, iI_xor, iI_shl, iI_shr, iI_ushr, iI_div, iI_b, iI_c, iI_i2l, lI_l2i, lI_add, lI_sub, lI_mul, lI_neg, lI_div, lI_or, lI_and, lI_shl, lI_shr, nI_iI, lg_lt0, lg_gt0, lg_eq0, i_ne0', l_ne0', iI_lt, iI_le, iI_eq, lI_lt, lI_le, lI_eq, zb_0, zb_fit, zb_fit0, zb_fit1, i_one_zero, i_w_in, z_tb0, z_tb1, z_tb2, z_tb3, z_tb4, z_tb5, z_tb6, z_tb7, z_tb8, z_tbl, z_tu0, z_tu1, z_tu2, z_i_62, z_i_63, z_i_86, z_i_88, z_l_Y, z_ui_62, z_ui_63, z_ui_86, z_ui_88, z_ul_Y, z_sz_Y, z_sw_Y, iI_nat, z_ix_t, z_at, Int.add_zero, Int.sub_zero, Int.zero_add, Int.mul_zero, ne_eq, Bool.false_eq_true, Bool.true_eq_false, reduceCtorEq, eq_self, and_true, true_and, and_false, false_and, and_self, not_true_eq_false, not_false_eq_true, decide_true, decide_false, ↓reduceIte, Int.reduceEq, Int.reduceNe, Int.reduceLT, Int.reduceLE, Int.reduceAdd, Int.reduceSub, Int.reduceMul, Int.reduceNeg, Nat.reduceAdd, Nat.reduceEqDiff, Nat.reduceBEq, ↓z_x_eq, z_g_t, z_bI_s, z_bL_s, z_bR_s, z_bV_s, Int.cast_ofNat_Int, beq_self_eq_true, Bool.and_true, Bool.true_and, Bool.and_self, Bool.or_true, Bool.true_or, Bool.false_and, Bool.and_false, Bool.false_or, Bool.or_false, Bool.not_false, Bool.not_true, if_true, if_false, ite_true, ite_false, z_up_eq, z_up_app, z_ro_eq, kT, lT, a1, k1, l1, i1, k80, a2]
theorem lw_9 {i : Int} {N : Nat} (h : z_I S0 c T G) (hc : c < 600) (hk : T.1 1 = (20, N)) (hi : 0 ≤ i ∧ i + 6 ≤ N) (hN : N ≤ 3072) (hx : ∀ k, i_in (G 1 k)) : lw_go S0 c T G s i 503 := by
  have h98 := h.2.2.2.2.2.2.2.2.2.2.1.1
  have kT : ∀ G s, z_kd (z_Y T G s) 1 = 20 := fun G s => by show (T.1 1).1 = 20; rw [hk]
  have lT : ∀ G s, z_ln (z_Y T G s) 1 = N := fun G s => by show (T.1 1).2 = N; rw [hk]
  have x1 := hx (i + 1)
  have x2 := hx (i + 2)
  obtain ⟨v, σ1, T2, G2, s2, a1, a2, hI, hT, k1, l1, k80, i1⟩ := z_pr_go (e1 := 0) (e2 := 2) (mf := d_B_change) (mg := d_M_change) (t_change 55 h hc (p := G 1 (i + 1)) (w := G 1 (i + 2)) (hx _) (hx _)) h98 rfl rfl rfl rfl ⟨by decide, by decide⟩ rfl s
  rw [hk] at k1 l1 i1
  have i1 := i1 rfl
  refine ⟨T2, G2, s2, ?_, hI, hT⟩
  rw [e_L_law_503]
  simp -implicitDefEqProofs (disch := first | assumption | omega | rfl | (simp only [z_up_eq, z_up_app, ↓reduceIte, Nat.reduceEqDiff]; omega)) only [z_lit0, z_lit1, z_lit2, z_litl, iI_add, iI_sub, iI_mul, iI_neg, iI_and, iI_or, iI_xor, iI_shl, iI_shr, iI_ushr, iI_div, iI_b, iI_c, iI_i2l, lI_l2i, lI_add, lI_sub, lI_mul, lI_neg, lI_div, lI_or, lI_and, lI_shl, lI_shr, nI_iI, lg_lt0, lg_gt0, lg_eq0, i_ne0', l_ne0', iI_lt, iI_le, iI_eq, lI_lt, lI_le, lI_eq, zb_0, zb_fit, zb_fit0, zb_fit1, i_one_zero, i_w_in, z_tb0, z_tb1, z_tb2, z_tb3, z_tb4, z_tb5, z_tb6, z_tb7, z_tb8, z_tbl, z_tu0, z_tu1, z_tu2, z_i_62, z_i_63, z_i_86, z_i_88, z_l_Y, z_ui_62, z_ui_63, z_ui_86, z_ui_88, z_ul_Y, z_sz_Y, z_sw_Y, iI_nat, z_ix_t, z_at, Int.add_zero, Int.sub_zero, Int.zero_add, Int.mul_zero, ne_eq, Bool.false_eq_true, Bool.true_eq_false, reduceCtorEq, eq_self, and_true, true_and, and_false, false_and, and_self, not_true_eq_false, not_false_eq_true, decide_true, decide_false, ↓reduceIte, Int.reduceEq, Int.reduceNe, Int.reduceLT, Int.reduceLE, Int.reduceAdd, Int.reduceSub, Int.reduceMul, Int.reduceNeg, Nat.reduceAdd, Nat.reduceEqDiff, Nat.reduceBEq, ↓z_x_eq, z_g_t, z_bI_s, z_bL_s, z_bR_s, z_bV_s, Int.cast_ofNat_Int, beq_self_eq_true, Bool.and_true, Bool.true_and, Bool.and_self, Bool.or_true, Bool.true_or, Bool.false_and, Bool.and_false, Bool.false_or, Bool.or_false, Bool.not_false, Bool.not_true, if_true, if_false, ite_true, ite_false, z_up_eq, z_up_app, z_ro_eq, kT, lT, a1, k1, l1, i1, k80, a2]
theorem lw_10 {i : Int} {N : Nat} (h : z_I S0 c T G) (hc : c < 600) (hk : T.1 1 = (20, N)) (hi : 0 ≤ i ∧ i + 6 ≤ N) (hN : N ≤ 3072) (hx : ∀ k, i_in (G 1 k)) : lw_go S0 c T G s i 536 := by
  have h98 := h.2.2.2.2.2.2.2.2.2.2.1.1
  have kT : ∀ G s, z_kd (z_Y T G s) 1 = 20 := fun G s => by show (T.1 1).1 = 20; rw [hk]
  have lT : ∀ G s, z_ln (z_Y T G s) 1 = N := fun G s => by show (T.1 1).2 = N; rw [hk]
  have x1 := hx (i + 1)
  have x2 := hx (i + 2)
  obtain ⟨v, σ1, T2, G2, s2, a1, a2, hI, hT, k1, l1, k80, i1⟩ := z_pr_go (e1 := 0) (e2 := 2) (mf := d_B_be) (mg := d_M_be) (t_be 55 h hc (p := G 1 (i + 1)) (w := G 1 (i + 2)) (hx _) (hx _)) h98 rfl rfl rfl rfl ⟨by decide, by decide⟩ rfl s
  rw [hk] at k1 l1 i1
  have i1 := i1 rfl
  refine ⟨T2, G2, s2, ?_, hI, hT⟩
  rw [e_L_law_536]
  simp -implicitDefEqProofs (disch := first | assumption | omega | rfl | (simp only [z_up_eq, z_up_app, ↓reduceIte, Nat.reduceEqDiff]; omega)) only [z_lit0, z_lit1, z_lit2, z_litl, iI_add, iI_sub, iI_mul, iI_neg, iI_and, iI_or, iI_xor, iI_shl, iI_shr, iI_ushr, iI_div, iI_b, iI_c, iI_i2l, lI_l2i, lI_add, lI_sub, lI_mul, lI_neg, lI_div, lI_or, lI_and, lI_shl, lI_shr, nI_iI, lg_lt0, lg_gt0, lg_eq0, i_ne0', l_ne0', iI_lt, iI_le, iI_eq, lI_lt, lI_le, lI_eq, zb_0, zb_fit, zb_fit0, zb_fit1, i_one_zero, i_w_in, z_tb0, z_tb1, z_tb2, z_tb3, z_tb4, z_tb5, z_tb6, z_tb7, z_tb8, z_tbl, z_tu0, z_tu1, z_tu2, z_i_62, z_i_63, z_i_86, z_i_88, z_l_Y, z_ui_62, z_ui_63, z_ui_86, z_ui_88, z_ul_Y, z_sz_Y, z_sw_Y, iI_nat, z_ix_t, z_at, Int.add_zero, Int.sub_zero, Int.zero_add, Int.mul_zero, ne_eq, Bool.false_eq_true, Bool.true_eq_false, reduceCtorEq, eq_self, and_true, true_and, and_false, false_and, and_self, not_true_eq_false, not_false_eq_true, decide_true, decide_false, ↓reduceIte, Int.reduceEq, Int.reduceNe, Int.reduceLT, Int.reduceLE, Int.reduceAdd, Int.reduceSub, Int.reduceMul, Int.reduceNeg, Nat.reduceAdd, Nat.reduceEqDiff, Nat.reduceBEq, ↓z_x_eq, z_g_t, z_bI_s, z_bL_s, z_bR_s, z_bV_s, Int.cast_ofNat_Int, beq_self_eq_true, Bool.and_true, Bool.true_and, Bool.and_self, Bool.or_true, Bool.true_or, Bool.false_and, Bool.and_false, Bool.false_or, Bool.or_false, Bool.not_false, Bool.not_true, if_true, if_false, ite_true, ite_false, z_up_eq, z_up_app, z_ro_eq, kT, lT, a1, k1, l1, i1, k80, a2]
theorem lw_11 {i : Int} {N : Nat} (h : z_I S0 c T G) (hc : c < 600) (hk : T.1 1 = (20, N)) (hi : 0 ≤ i ∧ i + 6 ≤ N) (hN : N ≤ 3072) (hx : ∀ k, i_in (G 1 k)) : lw_go S0 c T G s i 569 := by
  have h98 := h.2.2.2.2.2.2.2.2.2.2.1.1
  have kT : ∀ G s, z_kd (z_Y T G s) 1 = 20 := fun G s => by show (T.1 1).1 = 20; rw [hk]
  have lT : ∀ G s, z_ln (z_Y T G s) 1 = N := fun G s => by show (T.1 1).2 = N; rw [hk]
  have x1 := hx (i + 1)
  have x2 := hx (i + 2)
  by_cases q : G 1 (i + 2) = 0
  · have q' : (G 1 (i + 2) = 0) = True := eq_true q
    obtain ⟨v, σ1, T2, G2, s2, a1, a2, hI, hT, k1, l1, k80, i1⟩ := z_pr_go (e1 := 0) (e2 := 2) (mf := d_B_usher) (mg := d_M_usher) (t_usher 55 h hc (b := G 1 (i + 1)) (hx _) false) h98 rfl rfl rfl rfl ⟨by decide, by decide⟩ rfl s
    rw [hk] at k1 l1 i1
    have i1 := i1 rfl
    rw [zb_f] at a1 a2
    refine ⟨T2, G2, s2, ?_, hI, hT⟩
    rw [e_L_law_569]
    simp -implicitDefEqProofs (disch := first | assumption | omega | rfl | (simp only [z_up_eq, z_up_app, ↓reduceIte, Nat.reduceEqDiff]; omega)) only [z_lit0, z_lit1, z_lit2, z_litl, iI_add, iI_sub, iI_mul, iI_neg, iI_and, iI_or, iI_xor, iI_shl, iI_shr, iI_ushr, iI_div, iI_b, iI_c, iI_i2l, lI_l2i, lI_add, lI_sub, lI_mul, lI_neg, lI_div, lI_or, lI_and, lI_shl, lI_shr, nI_iI, lg_lt0, lg_gt0, lg_eq0, i_ne0', l_ne0', iI_lt, iI_le, iI_eq, lI_lt, lI_le, lI_eq, zb_0, zb_fit, zb_fit0, zb_fit1, i_one_zero, i_w_in, z_tb0, z_tb1, z_tb2, z_tb3, z_tb4, z_tb5, z_tb6, z_tb7, z_tb8, z_tbl, z_tu0, z_tu1, z_tu2, z_i_62, z_i_63, z_i_86, z_i_88, z_l_Y, z_ui_62, z_ui_63, z_ui_86, z_ui_88, z_ul_Y, z_sz_Y, z_sw_Y, iI_nat, z_ix_t, z_at, Int.add_zero, Int.sub_zero, Int.zero_add, Int.mul_zero, ne_eq, Bool.false_eq_true, Bool.true_eq_false, reduceCtorEq, eq_self, and_true, true_and, and_false, false_and, and_self, not_true_eq_false, not_false_eq_true, decide_true, decide_false, ↓reduceIte, Int.reduceEq, Int.reduceNe, Int.reduceLT, Int.reduceLE, Int.reduceAdd, Int.reduceSub, Int.reduceMul, Int.reduceNeg, Nat.reduceAdd, Nat.reduceEqDiff, Nat.reduceBEq, ↓z_x_eq, z_g_t, z_bI_s, z_bL_s, z_bR_s, z_bV_s, Int.cast_ofNat_Int, beq_self_eq_true, Bool.and_true, Bool.true_and, Bool.and_self, Bool.or_true, Bool.true_or, Bool.false_and, Bool.and_false, Bool.false_or, Bool.or_false, Bool.not_false, Bool.not_true, if_true, if_false, ite_true, ite_false, z_up_eq, z_up_app, z_ro_eq, kT, lT, a1, k1, l1, i1, k80, a2, q']
  · have q' : (G 1 (i + 2) = 0) = False := eq_false q
    obtain ⟨v, σ1, T2, G2, s2, a1, a2, hI, hT, k1, l1, k80, i1⟩ := z_pr_go (e1 := 0) (e2 := 2) (mf := d_B_usher) (mg := d_M_usher) (t_usher 55 h hc (b := G 1 (i + 1)) (hx _) true) h98 rfl rfl rfl rfl ⟨by decide, by decide⟩ rfl s
    rw [hk] at k1 l1 i1
    have i1 := i1 rfl
    rw [zb_t] at a1 a2
    refine ⟨T2, G2, s2, ?_, hI, hT⟩
    rw [e_L_law_569]
    simp -implicitDefEqProofs (disch := first | assumption | omega | rfl | (simp only [z_up_eq, z_up_app, ↓reduceIte, Nat.reduceEqDiff]; omega)) only [z_lit0, z_lit1, z_lit2, z_litl, iI_add, iI_sub, iI_mul, iI_neg, iI_and, iI_or, iI_xor, iI_shl, iI_shr, iI_ushr, iI_div, iI_b, iI_c, iI_i2l, lI_l2i, lI_add, lI_sub, lI_mul, lI_neg, lI_div, lI_or, lI_and, lI_shl, lI_shr, nI_iI, lg_lt0, lg_gt0, lg_eq0, i_ne0', l_ne0', iI_lt, iI_le, iI_eq, lI_lt, lI_le, lI_eq, zb_0, zb_fit, zb_fit0, zb_fit1, i_one_zero, i_w_in, z_tb0, z_tb1, z_tb2, z_tb3, z_tb4, z_tb5, z_tb6, z_tb7, z_tb8, z_tbl, z_tu0, z_tu1, z_tu2, z_i_62, z_i_63, z_i_86, z_i_88, z_l_Y, z_ui_62, z_ui_63, z_ui_86, z_ui_88, z_ul_Y, z_sz_Y, z_sw_Y, iI_nat, z_ix_t, z_at, Int.add_zero, Int.sub_zero, Int.zero_add, Int.mul_zero, ne_eq, Bool.false_eq_true, Bool.true_eq_false, reduceCtorEq, eq_self, and_true, true_and, and_false, false_and, and_self, not_true_eq_false, not_false_eq_true, decide_true, decide_false, ↓reduceIte, Int.reduceEq, Int.reduceNe, Int.reduceLT, Int.reduceLE, Int.reduceAdd, Int.reduceSub, Int.reduceMul, Int.reduceNeg, Nat.reduceAdd, Nat.reduceEqDiff, Nat.reduceBEq, ↓z_x_eq, z_g_t, z_bI_s, z_bL_s, z_bR_s, z_bV_s, Int.cast_ofNat_Int, beq_self_eq_true, Bool.and_true, Bool.true_and, Bool.and_self, Bool.or_true, Bool.true_or, Bool.false_and, Bool.and_false, Bool.false_or, Bool.or_false, Bool.not_false, Bool.not_true, if_true, if_false, ite_true, ite_false, z_up_eq, z_up_app, z_ro_eq, kT, lT, a1, k1, l1, i1, k80, a2, q']
theorem lw_12 {i : Int} {N : Nat} (h : z_I S0 c T G) (hc : c < 600) (hk : T.1 1 = (20, N)) (hi : 0 ≤ i ∧ i + 6 ≤ N) (hN : N ≤ 3072) (hx : ∀ k, i_in (G 1 k)) : lw_go S0 c T G s i 618 := by
  have h98 := h.2.2.2.2.2.2.2.2.2.2.1.1
  have kT : ∀ G s, z_kd (z_Y T G s) 1 = 20 := fun G s => by show (T.1 1).1 = 20; rw [hk]
  have lT : ∀ G s, z_ln (z_Y T G s) 1 = N := fun G s => by show (T.1 1).2 = N; rw [hk]
  have x1 := hx (i + 1)
  obtain ⟨v, σ1, T2, G2, s2, a1, a2, hI, hT, k1, l1, k80, i1⟩ := z_pr_go (e1 := 1) (e2 := 0) (mf := d_B_cough) (mg := d_M_cough) (t_cough 52 h hc (p := G 1 (i + 1)) (hx _)) h98 rfl rfl rfl rfl ⟨by decide, by decide⟩ rfl s
  rw [hk] at k1 l1 i1
  have i1 := i1 rfl
  refine ⟨T2, G2, s2, ?_, hI, hT⟩
  rw [e_L_law_618]
  simp -implicitDefEqProofs (disch := first | assumption | omega | rfl | (simp only [z_up_eq, z_up_app, ↓reduceIte, Nat.reduceEqDiff]; omega)) only [z_lit0, z_lit1, z_lit2, z_litl, iI_add, iI_sub, iI_mul, iI_neg, iI_and, iI_or, iI_xor, iI_shl, iI_shr, iI_ushr, iI_div, iI_b, iI_c, iI_i2l, lI_l2i, lI_add, lI_sub, lI_mul, lI_neg, lI_div, lI_or, lI_and, lI_shl, lI_shr, nI_iI, lg_lt0, lg_gt0, lg_eq0, i_ne0', l_ne0', iI_lt, iI_le, iI_eq, lI_lt, lI_le, lI_eq, zb_0, zb_fit, zb_fit0, zb_fit1, i_one_zero, i_w_in, z_tb0, z_tb1, z_tb2, z_tb3, z_tb4, z_tb5, z_tb6, z_tb7, z_tb8, z_tbl, z_tu0, z_tu1, z_tu2, z_i_62, z_i_63, z_i_86, z_i_88, z_l_Y, z_ui_62, z_ui_63, z_ui_86, z_ui_88, z_ul_Y, z_sz_Y, z_sw_Y, iI_nat, z_ix_t, z_at, Int.add_zero, Int.sub_zero, Int.zero_add, Int.mul_zero, ne_eq, Bool.false_eq_true, Bool.true_eq_false, reduceCtorEq, eq_self, and_true, true_and, and_false, false_and, and_self, not_true_eq_false, not_false_eq_true, decide_true, decide_false, ↓reduceIte, Int.reduceEq, Int.reduceNe, Int.reduceLT, Int.reduceLE, Int.reduceAdd, Int.reduceSub, Int.reduceMul, Int.reduceNeg, Nat.reduceAdd, Nat.reduceEqDiff, Nat.reduceBEq, ↓z_x_eq, z_g_t, z_bI_s, z_bL_s, z_bR_s, z_bV_s, Int.cast_ofNat_Int, beq_self_eq_true, Bool.and_true, Bool.true_and, Bool.and_self, Bool.or_true, Bool.true_or, Bool.false_and, Bool.and_false, Bool.false_or, Bool.or_false, Bool.not_false, Bool.not_true, if_true, if_false, ite_true, ite_false, z_up_eq, z_up_app, z_ro_eq, kT, lT, a1, k1, l1, i1, k80, a2]
theorem lw_13 {i : Int} {N : Nat} (h : z_I S0 c T G) (hc : c < 600) (hk : T.1 1 = (20, N)) (hi : 0 ≤ i ∧ i + 6 ≤ N) (hN : N ≤ 3072) (hx : ∀ k, i_in (G 1 k)) : lw_go S0 c T G s i 641 := by
  have h98 := h.2.2.2.2.2.2.2.2.2.2.1.1
  have kT : ∀ G s, z_kd (z_Y T G s) 1 = 20 := fun G s => by show (T.1 1).1 = 20; rw [hk]
  have lT : ∀ G s, z_ln (z_Y T G s) 1 = N := fun G s => by show (T.1 1).2 = N; rw [hk]
  have x1 := hx (i + 1)
  obtain ⟨v, σ1, T2, G2, s2, a1, a2, hI, hT, k1, l1, k80, i1⟩ := z_pr_go (e1 := 0) (e2 := 2) (mf := d_B_beat) (mg := d_M_beat) (t_beat 55 h hc (n := G 1 (i + 1)) (hx _)) h98 rfl rfl rfl rfl ⟨by decide, by decide⟩ rfl s
  rw [hk] at k1 l1 i1
  have i1 := i1 rfl
  refine ⟨T2, G2, s2, ?_, hI, hT⟩
  rw [e_L_law_641]
  simp -implicitDefEqProofs (disch := first | assumption | omega | rfl | (simp only [z_up_eq, z_up_app, ↓reduceIte, Nat.reduceEqDiff]; omega)) only [z_lit0, z_lit1, z_lit2, z_litl, iI_add, iI_sub, iI_mul, iI_neg, iI_and, iI_or, iI_xor, iI_shl, iI_shr, iI_ushr, iI_div, iI_b, iI_c, iI_i2l, lI_l2i, lI_add, lI_sub, lI_mul, lI_neg, lI_div, lI_or, lI_and, lI_shl, lI_shr, nI_iI, lg_lt0, lg_gt0, lg_eq0, i_ne0', l_ne0', iI_lt, iI_le, iI_eq, lI_lt, lI_le, lI_eq, zb_0, zb_fit, zb_fit0, zb_fit1, i_one_zero, i_w_in, z_tb0, z_tb1, z_tb2, z_tb3, z_tb4, z_tb5, z_tb6, z_tb7, z_tb8, z_tbl, z_tu0, z_tu1, z_tu2, z_i_62, z_i_63, z_i_86, z_i_88, z_l_Y, z_ui_62, z_ui_63, z_ui_86, z_ui_88, z_ul_Y, z_sz_Y, z_sw_Y, iI_nat, z_ix_t, z_at, Int.add_zero, Int.sub_zero, Int.zero_add, Int.mul_zero, ne_eq, Bool.false_eq_true, Bool.true_eq_false, reduceCtorEq, eq_self, and_true, true_and, and_false, false_and, and_self, not_true_eq_false, not_false_eq_true, decide_true, decide_false, ↓reduceIte, Int.reduceEq, Int.reduceNe, Int.reduceLT, Int.reduceLE, Int.reduceAdd, Int.reduceSub, Int.reduceMul, Int.reduceNeg, Nat.reduceAdd, Nat.reduceEqDiff, Nat.reduceBEq, ↓z_x_eq, z_g_t, z_bI_s, z_bL_s, z_bR_s, z_bV_s, Int.cast_ofNat_Int, beq_self_eq_true, Bool.and_true, Bool.true_and, Bool.and_self, Bool.or_true, Bool.true_or, Bool.false_and, Bool.and_false, Bool.false_or, Bool.or_false, Bool.not_false, Bool.not_true, if_true, if_false, ite_true, ite_false, z_up_eq, z_up_app, z_ro_eq, kT, lT, a1, k1, l1, i1, k80, a2]
end

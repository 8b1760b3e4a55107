/-! THE PURE PART, 30: a step is kept, on both sides -/
/-- a step at x of the row R, kept of the row B -/
def k_md (B R : Int → Int) (x : Int) : Prop := (∀ k, k < x ∨ x + 65 ≤ k → R k = B k) ∧ R x = B 1 ∧ R (x + 1) = B 8 ∧ R (x + 2) = B 3 ∧ R (x + 3) = B 4 ∧ R (x + 4) = B 11 ∧ (∀ p, 0 ≤ p → p < 10 → R (x + 5 + 2 * p) = B (32 + 5 * p + 3) ∧ R (x + 6 + 2 * p) = B (32 + 5 * p + 4)) ∧ ∀ k, 0 ≤ k → k < 40 → R (x + 25 + k) = B (106 + k)
theorem p_mk_196 (d : Nat) (T : ZT) (G : ZG) (s : ZG × ZG) {B : Int → Int} {x : Int} (hx : 186 ≤ x ∧ x ≤ 2071) : ∀ (m : Nat) (i : Int) (R : Int → Int), 0 ≤ i → i + m = 40 → (∀ k, k < x ∨ x + 65 ≤ k → R k = B k) → (R x = B 1 ∧ R (x + 1) = B 8 ∧ R (x + 2) = B 3 ∧ R (x + 3) = B 4 ∧ R (x + 4) = B 11) → (∀ p, 0 ≤ p → p < 10 → R (x + 5 + 2 * p) = B (32 + 5 * p + 3) ∧ R (x + 6 + 2 * p) = B (32 + 5 * p + 4)) → (∀ k, 0 ≤ k → k < i → R (x + 25 + k) = B (106 + k)) → ∃ R', z_w d_M_keep (z_call d) 196 [some (vr 80), some (vi (iI x)), some (vi (iI i))] [] (z_Y T (z_up G 81 R) s) = some (vi (iI 0), z_Y T (z_up G 81 (z_ro R' 7 (B 7 + 1))) s) ∧ k_md B R' x
  | 0, i, R, h0, h, r1, r2, r3, r4 => by
    have hf : (i < 40) = False := eq_false (by omega)
    have e7 : R 7 = B 7 := r1 7 (by omega)
    refine ⟨R, ?_, r1, r2.1, r2.2.1, r2.2.2.1, r2.2.2.2.1, r2.2.2.2.2, r3, fun k a b => r4 k a (by omega)⟩
    rw [e_M_keep_196]
    simp -implicitDefEqProofs (disch := first | assumption | omega | rfl | (simp only [z_up_eq, z_up_app, ↓reduceIte, Nat.reduceEqDiff]; omega)) only [z_lit0, z_lit1, z_lit2, z_litl, iI_add, iI_sub, iI_mul, iI_neg, iI_and, iI_or, iI_xor, iI_shl, iI_shr, iI_ushr, iI_div, iI_b, iI_c, iI_i2l, lI_l2i, lI_add, lI_sub, lI_mul, lI_neg, lI_div, lI_or, lI_and, lI_shl, lI_shr, nI_iI, lg_lt0, lg_gt0, lg_eq0, i_ne0', l_ne0', iI_lt, iI_le, iI_eq, lI_lt, lI_le, lI_eq, zb_0, zb_fit, zb_fit0, zb_fit1, i_one_zero, i_w_in, z_tb0, z_tb1, z_tb2, z_tb3, z_tb4, z_tb5, z_tb6, z_tb7, z_tb8, z_tbl, z_tu0, z_tu1, z_tu2, z_i_62, z_i_63, z_i_86, z_i_88, z_l_Y, z_ui_62, z_ui_63, z_ui_86, z_ui_88, z_ul_Y, z_sz_Y, z_sw_Y, iI_nat, z_ix_t, z_at, Int.add_zero, Int.sub_zero, Int.zero_add, Int.mul_zero, ne_eq, Bool.false_eq_true, Bool.true_eq_false, reduceCtorEq, eq_self, and_true, true_and, and_false, false_and, and_self, not_true_eq_false, not_false_eq_true, decide_true, decide_false, ↓reduceIte, Int.reduceEq, Int.reduceNe, Int.reduceLT, Int.reduceLE, Int.reduceAdd, Int.reduceSub, Int.reduceMul, Int.reduceNeg, Nat.reduceAdd, Nat.reduceEqDiff, Nat.reduceBEq, ↓z_x_eq, z_g_t, z_bI_s, z_bL_s, z_bR_s, z_bV_s, Int.cast_ofNat_Int, beq_self_eq_true, Bool.and_true, Bool.true_and, Bool.and_self, Bool.or_true, Bool.true_or, Bool.false_and, Bool.and_false, Bool.false_or, Bool.or_false, Bool.not_false, Bool.not_true, if_true, if_false, ite_true, ite_false, z_up_eq, z_up_app, z_ro_eq, hf, z_up_up, e7]
  | m + 1, i, R, h0, h, r1, r2, r3, r4 => by
    have hf : (i < 40) = True := eq_true (by omega)
    have e1 : R (106 + i) = B (106 + i) := r1 _ (by omega)
    obtain ⟨R', e, k⟩ := p_mk_196 d T G s (B := B) hx m (i + 1) (z_ro R (x + 25 + i) (B (106 + i))) (by omega) (by omega) (fun k a => by rw [z_ro_ne _ _ (by omega)]; exact r1 k a) (by rw [z_ro_ne _ _ (by omega), z_ro_ne _ _ (by omega), z_ro_ne _ _ (by omega), z_ro_ne _ _ (by omega), z_ro_ne _ _ (by omega)]; exact r2) (fun p a b => by rw [z_ro_ne _ _ (by omega), z_ro_ne _ _ (by omega)]; exact r3 p a b) (fun k a b => by
      by_cases c : k = i
      · rw [c, z_ro_eq]
      · rw [z_ro_ne _ _ (by omega)]; exact r4 k a (by omega))
    refine ⟨R', ?_, k⟩
    rw [e_M_keep_196]
    simp -implicitDefEqProofs (disch := first | assumption | omega | rfl | (simp only [z_up_eq, z_up_app, ↓reduceIte, Nat.reduceEqDiff]; omega)) only [z_lit0, z_lit1, z_lit2, z_litl, iI_add, iI_sub, iI_mul, iI_neg, iI_and, iI_or, iI_xor, iI_shl, iI_shr, iI_ushr, iI_div, iI_b, iI_c, iI_i2l, lI_l2i, lI_add, lI_sub, lI_mul, lI_neg, lI_div, lI_or, lI_and, lI_shl, lI_shr, nI_iI, lg_lt0, lg_gt0, lg_eq0, i_ne0', l_ne0', iI_lt, iI_le, iI_eq, lI_lt, lI_le, lI_eq, zb_0, zb_fit, zb_fit0, zb_fit1, i_one_zero, i_w_in, z_tb0, z_tb1, z_tb2, z_tb3, z_tb4, z_tb5, z_tb6, z_tb7, z_tb8, z_tbl, z_tu0, z_tu1, z_tu2, z_i_62, z_i_63, z_i_86, z_i_88, z_l_Y, z_ui_62, z_ui_63, z_ui_86, z_ui_88, z_ul_Y, z_sz_Y, z_sw_Y, iI_nat, z_ix_t, z_at, Int.add_zero, Int.sub_zero, Int.zero_add, Int.mul_zero, ne_eq, Bool.false_eq_true, Bool.true_eq_false, reduceCtorEq, eq_self, and_true, true_and, and_false, false_and, and_self, not_true_eq_false, not_false_eq_true, decide_true, decide_false, ↓reduceIte, Int.reduceEq, Int.reduceNe, Int.reduceLT, Int.reduceLE, Int.reduceAdd, Int.reduceSub, Int.reduceMul, Int.reduceNeg, Nat.reduceAdd, Nat.reduceEqDiff, Nat.reduceBEq, ↓z_x_eq, z_g_t, z_bI_s, z_bL_s, z_bR_s, z_bV_s, Int.cast_ofNat_Int, beq_self_eq_true, Bool.and_true, Bool.true_and, Bool.and_self, Bool.or_true, Bool.true_or, Bool.false_and, Bool.and_false, Bool.false_or, Bool.or_false, Bool.not_false, Bool.not_true, if_true, if_false, ite_true, ite_false, z_up_eq, z_up_app, z_ro_eq, hf, z_up_up, e1]
    exact e
theorem p_mk_145 (d : Nat) (T : ZT) (G : ZG) (s : ZG × ZG) {B : Int → Int} {x : Int} (hx : 186 ≤ x ∧ x ≤ 2071) : ∀ (m : Nat) (i : Int) (R : Int → Int), 0 ≤ i → i + m = 10 → (∀ k, k < x ∨ x + 65 ≤ k → R k = B k) → (R x = B 1 ∧ R (x + 1) = B 8 ∧ R (x + 2) = B 3 ∧ R (x + 3) = B 4 ∧ R (x + 4) = B 11) → (∀ p, 0 ≤ p → p < i → R (x + 5 + 2 * p) = B (32 + 5 * p + 3) ∧ R (x + 6 + 2 * p) = B (32 + 5 * p + 4)) → ∃ R', z_w d_M_keep (z_call (d + 1)) 145 [some (vr 80), some (vi (iI x)), some (vi (iI i))] [] (z_Y T (z_up G 81 R) s) = some (vi (iI 0), z_Y T (z_up G 81 (z_ro R' 7 (B 7 + 1))) s) ∧ k_md B R' x
  | 0, i, R, h0, h, r1, r2, r3 => by
    have hf : (i < 10) = False := eq_false (by omega)
    obtain ⟨R', e, k⟩ := p_mk_196 (d + 1) T G s (B := B) hx 40 0 R (by omega) (by omega) r1 r2 (fun p a b => r3 p a (by omega)) (fun k a b => by omega)
    refine ⟨R', ?_, k⟩
    rw [e_M_keep_145]
    simp -implicitDefEqProofs (disch := first | assumption | omega | rfl | (simp only [z_up_eq, z_up_app, ↓reduceIte, Nat.reduceEqDiff]; omega)) only [z_lit0, z_lit1, z_lit2, z_litl, iI_add, iI_sub, iI_mul, iI_neg, iI_and, iI_or, iI_xor, iI_shl, iI_shr, iI_ushr, iI_div, iI_b, iI_c, iI_i2l, lI_l2i, lI_add, lI_sub, lI_mul, lI_neg, lI_div, lI_or, lI_and, lI_shl, lI_shr, nI_iI, lg_lt0, lg_gt0, lg_eq0, i_ne0', l_ne0', iI_lt, iI_le, iI_eq, lI_lt, lI_le, lI_eq, zb_0, zb_fit, zb_fit0, zb_fit1, i_one_zero, i_w_in, z_tb0, z_tb1, z_tb2, z_tb3, z_tb4, z_tb5, z_tb6, z_tb7, z_tb8, z_tbl, z_tu0, z_tu1, z_tu2, z_i_62, z_i_63, z_i_86, z_i_88, z_l_Y, z_ui_62, z_ui_63, z_ui_86, z_ui_88, z_ul_Y, z_sz_Y, z_sw_Y, iI_nat, z_ix_t, z_at, Int.add_zero, Int.sub_zero, Int.zero_add, Int.mul_zero, ne_eq, Bool.false_eq_true, Bool.true_eq_false, reduceCtorEq, eq_self, and_true, true_and, and_false, false_and, and_self, not_true_eq_false, not_false_eq_true, decide_true, decide_false, ↓reduceIte, Int.reduceEq, Int.reduceNe, Int.reduceLT, Int.reduceLE, Int.reduceAdd, Int.reduceSub, Int.reduceMul, Int.reduceNeg, Nat.reduceAdd, Nat.reduceEqDiff, Nat.reduceBEq, ↓z_x_eq, z_g_t, z_bI_s, z_bL_s, z_bR_s, z_bV_s, Int.cast_ofNat_Int, beq_self_eq_true, Bool.and_true, Bool.true_and, Bool.and_self, Bool.or_true, Bool.true_or, Bool.false_and, Bool.and_false, Bool.false_or, Bool.or_false, Bool.not_false, Bool.not_true, if_true, if_false, ite_true, ite_false, z_up_eq, z_up_app, z_ro_eq, hf]
    exact e
  | m + 1, i, R, h0, h, r1, r2, r3 => by
    have hf : (i < 10) = True := eq_true (by omega)
    have e1 : R (32 + 5 * i + 3) = B (32 + 5 * i + 3) := r1 _ (by omega)
    have e2 : z_ro R (x + 5 + 2 * i) (B (32 + 5 * i + 3)) (32 + 5 * i + 4) = B (32 + 5 * i + 4) := by rw [z_ro_ne _ _ (by omega)]; exact r1 _ (by omega)
    obtain ⟨R', e, k⟩ := p_mk_145 d T G s (B := B) hx m (i + 1) (z_ro (z_ro R (x + 5 + 2 * i) (B (32 + 5 * i + 3))) (x + 6 + 2 * i) (B (32 + 5 * i + 4))) (by omega) (by omega) (fun k a => by rw [z_ro_ne _ _ (by omega), z_ro_ne _ _ (by omega)]; exact r1 k a) (by rw [z_ro_ne _ _ (by omega), z_ro_ne _ _ (by omega), z_ro_ne _ _ (by omega), z_ro_ne _ _ (by omega), z_ro_ne _ _ (by omega), z_ro_ne _ _ (by omega), z_ro_ne _ _ (by omega), z_ro_ne _ _ (by omega), z_ro_ne _ _ (by omega), z_ro_ne _ _ (by omega)]; exact r2) (fun p a b => by
      by_cases c : p = i
      · rw [c, z_ro_eq, z_ro_ne _ _ (by omega), z_ro_eq]; exact ⟨rfl, rfl⟩
      · rw [z_ro_ne _ _ (by omega), z_ro_ne _ _ (by omega), z_ro_ne _ _ (by omega), z_ro_ne _ _ (by omega)]; exact r3 p a (by omega))
    refine ⟨R', ?_, k⟩
    rw [e_M_keep_145]
    simp -implicitDefEqProofs (disch := first | assumption | omega | rfl | (simp only [z_up_eq, z_up_app, ↓reduceIte, Nat.reduceEqDiff]; omega)) only [z_lit0, z_lit1, z_lit2, z_litl, iI_add, iI_sub, iI_mul, iI_neg, iI_and, iI_or, iI_xor, iI_shl, iI_shr, iI_ushr, iI_div, iI_b, iI_c, iI_i2l, lI_l2i, lI_add, lI_sub, lI_mul, lI_neg, lI_div, lI_or, lI_and, lI_shl, lI_shr, nI_iI, lg_lt0, lg_gt0, lg_eq0, i_ne0', l_ne0', iI_lt, iI_le, iI_eq, lI_lt, lI_le, lI_eq, zb_0, zb_fit, zb_fit0, zb_fit1, i_one_zero, i_w_in, z_tb0, z_tb1, z_tb2, z_tb3, z_tb4, z_tb5, z_tb6, z_tb7, z_tb8, z_tbl, z_tu0, z_tu1, z_tu2, z_i_62, z_i_63, z_i_86, z_i_88, z_l_Y, z_ui_62, z_ui_63, z_ui_86, z_ui_88, z_ul_Y, z_sz_Y, z_sw_Y, iI_nat, z_ix_t, z_at, Int.add_zero, Int.sub_zero, Int.zero_add, Int.mul_zero, ne_eq, Bool.false_eq_true, Bool.true_eq_false, reduceCtorEq, eq_self, and_true, true_and, and_false, false_and, and_self, not_true_eq_false, not_false_eq_true, decide_true, decide_false, ↓reduceIte, Int.reduceEq, Int.reduceNe, Int.reduceLT, Int.reduceLE, Int.reduceAdd, Int.reduceSub, Int.reduceMul, Int.reduceNeg, Nat.reduceAdd, Nat.reduceEqDiff, Nat.reduceBEq, ↓z_x_eq, z_g_t, z_bI_s, z_bL_s, z_bR_s, z_bV_s, Int.cast_ofNat_Int, beq_self_eq_true, Bool.and_true, Bool.true_and, Bool.and_self, Bool.or_true, Bool.true_or, Bool.false_and, Bool.and_false, Bool.false_or, Bool.or_false, Bool.not_false, Bool.not_true, if_true, if_false, ite_true, ite_false, z_up_eq, z_up_app, z_ro_eq, hf, p_get, z_up_up, e1, e2]
    exact e
/-- the row with its steps one down -/
def k_sh (A B : Int → Int) : Prop := (∀ k, k < 186 → k ≠ 7 → B k = A k) ∧ B 7 = 29 ∧ ∀ k, 0 ≤ k → k < 1885 → B (186 + k) = A (251 + k)
theorem p_mk_14 (d : Nat) (T : ZT) (G : ZG) (s : ZG × ZG) {A : Int → Int} (h7 : A 7 = 30) : ∀ (m : Nat) (i : Int) (R : Int → Int), 0 ≤ i → i + m = 1885 → (∀ k, k < 186 ∨ 186 + i ≤ k → R k = A k) → (∀ k, 0 ≤ k → k < i → R (186 + k) = A (251 + k)) → ∃ B R', z_w d_M_keep (z_call (d + 1)) 14 [some (vr 80), some (vi (iI i)), none] [] (z_Y T (z_up G 81 R) s) = some (vi (iI 0), z_Y T (z_up G 81 (z_ro R' 7 30)) s) ∧ k_sh A B ∧ k_md B R' 2071
  | 0, i, R, h0, h, r1, r2 => by
    have hf : (i < 1885) = False := eq_false (by omega)
    have f : ∀ k, k < 186 → k ≠ 7 → z_ro R 7 29 k = A k := fun k a b => by rw [z_ro_ne _ _ b]; exact r1 k (by omega)
    have f7 : R 7 = 30 := by rw [r1 7 (by omega)]; exact h7
    have e7 : z_ro R 7 29 7 = 29 := z_ro_eq _ _ _
    have hB : k_sh A (z_ro R 7 29) := ⟨f, e7, fun k a b => by rw [z_ro_ne _ _ (by omega)]; exact r2 k a (by omega)⟩
    obtain ⟨R', e, k⟩ := p_mk_145 d T G s (B := z_ro R 7 29) (x := 2071) (by omega) 10 0 (z_ro (z_ro (z_ro (z_ro (z_ro (z_ro R 7 29) 2071 (z_ro R 7 29 1)) 2072 (z_ro R 7 29 8)) 2073 (z_ro R 7 29 3)) 2074 (z_ro R 7 29 4)) 2075 (z_ro R 7 29 11)) (by omega) (by omega) (fun k a => by rw [z_ro_ne _ _ (by omega), z_ro_ne _ _ (by omega), z_ro_ne _ _ (by omega), z_ro_ne _ _ (by omega), z_ro_ne _ _ (by omega)]) (by
      refine ⟨?_, ?_, ?_, ?_, ?_⟩
      · rw [z_ro_ne _ _ (by omega), z_ro_ne _ _ (by omega), z_ro_ne _ _ (by omega), z_ro_ne _ _ (by omega), z_ro_eq]
      · rw [z_ro_ne _ _ (by omega), z_ro_ne _ _ (by omega), z_ro_ne _ _ (by omega), z_ro_pos _ _ (by omega)]
      · rw [z_ro_ne _ _ (by omega), z_ro_ne _ _ (by omega), z_ro_pos _ _ (by omega)]
      · rw [z_ro_ne _ _ (by omega), z_ro_pos _ _ (by omega)]
      · rw [z_ro_pos _ _ (by omega)]) (fun p a b => by omega)
    refine ⟨_, R', ?_, hB, k⟩
    have g1 : z_ro R 7 29 1 = R 1 := z_ro_ne _ _ (by omega)
    have g8 : ∀ v, z_ro (z_ro R 7 29) 2071 v 8 = R 8 := fun v => by rw [z_ro_ne _ _ (by omega), z_ro_ne _ _ (by omega)]
    have g3 : ∀ v w, z_ro (z_ro (z_ro R 7 29) 2071 v) 2072 w 3 = R 3 := fun v w => by rw [z_ro_ne _ _ (by omega), z_ro_ne _ _ (by omega), z_ro_ne _ _ (by omega)]
    have g4 : ∀ v w u, z_ro (z_ro (z_ro (z_ro R 7 29) 2071 v) 2072 w) 2073 u 4 = R 4 := fun v w u => by rw [z_ro_ne _ _ (by omega), z_ro_ne _ _ (by omega), z_ro_ne _ _ (by omega), z_ro_ne _ _ (by omega)]
    have g11 : ∀ v w u t, z_ro (z_ro (z_ro (z_ro (z_ro R 7 29) 2071 v) 2072 w) 2073 u) 2074 t 11 = R 11 := fun v w u t => by rw [z_ro_ne _ _ (by omega), z_ro_ne _ _ (by omega), z_ro_ne _ _ (by omega), z_ro_ne _ _ (by omega), z_ro_ne _ _ (by omega)]
    have k8 : z_ro R 7 29 8 = R 8 := z_ro_ne _ _ (by omega)
    have k3 : z_ro R 7 29 3 = R 3 := z_ro_ne _ _ (by omega)
    have k4 : z_ro R 7 29 4 = R 4 := z_ro_ne _ _ (by omega)
    have k11 : z_ro R 7 29 11 = R 11 := z_ro_ne _ _ (by omega)
    rw [g1, k8, k3, k4, k11, e7] at e
    rw [e_M_keep_14]
    simp -implicitDefEqProofs (disch := first | assumption | omega | rfl | (simp only [z_up_eq, z_up_app, ↓reduceIte, Nat.reduceEqDiff]; omega)) only [z_lit0, z_lit1, z_lit2, z_litl, iI_add, iI_sub, iI_mul, iI_neg, iI_and, iI_or, iI_xor, iI_shl, iI_shr, iI_ushr, iI_div, iI_b, iI_c, iI_i2l, lI_l2i, lI_add, lI_sub, lI_mul, lI_neg, lI_div, lI_or, lI_and, lI_shl, lI_shr, nI_iI, lg_lt0, lg_gt0, lg_eq0, i_ne0', l_ne0', iI_lt, iI_le, iI_eq, lI_lt, lI_le, lI_eq, zb_0, zb_fit, zb_fit0, zb_fit1, i_one_zero, i_w_in, z_tb0, z_tb1, z_tb2, z_tb3, z_tb4, z_tb5, z_tb6, z_tb7, z_tb8, z_tbl, z_tu0, z_tu1, z_tu2, z_i_62, z_i_63, z_i_86, z_i_88, z_l_Y, z_ui_62, z_ui_63, z_ui_86, z_ui_88, z_ul_Y, z_sz_Y, z_sw_Y, iI_nat, z_ix_t, z_at, Int.add_zero, Int.sub_zero, Int.zero_add, Int.mul_zero, ne_eq, Bool.false_eq_true, Bool.true_eq_false, reduceCtorEq, eq_self, and_true, true_and, and_false, false_and, and_self, not_true_eq_false, not_false_eq_true, decide_true, decide_false, ↓reduceIte, Int.reduceEq, Int.reduceNe, Int.reduceLT, Int.reduceLE, Int.reduceAdd, Int.reduceSub, Int.reduceMul, Int.reduceNeg, Nat.reduceAdd, Nat.reduceEqDiff, Nat.reduceBEq, ↓z_x_eq, z_g_t, z_bI_s, z_bL_s, z_bR_s, z_bV_s, Int.cast_ofNat_Int, beq_self_eq_true, Bool.and_true, Bool.true_and, Bool.and_self, Bool.or_true, Bool.true_or, Bool.false_and, Bool.and_false, Bool.false_or, Bool.or_false, Bool.not_false, Bool.not_true, if_true, if_false, ite_true, ite_false, z_up_eq, z_up_app, z_ro_eq, hf, z_up_up, f7, g1, g8, g3, g4, g11, e7]
    exact e
  | m + 1, i, R, h0, h, r1, r2 => by
    have hf : (i < 1885) = True := eq_true (by omega)
    have e1 : R (251 + i) = A (251 + i) := r1 _ (by omega)
    obtain ⟨B, R', e, k1, k2⟩ := p_mk_14 d T G s h7 m (i + 1) (z_ro R (186 + i) (A (251 + i))) (by omega) (by omega) (fun k a => by rw [z_ro_ne _ _ (by omega)]; exact r1 k (by omega)) (fun k a b => by
      by_cases c : k = i
      · rw [c, z_ro_eq]
      · rw [z_ro_ne _ _ (by omega)]; exact r2 k a (by omega))
    refine ⟨B, R', ?_, k1, k2⟩
    rw [e_M_keep_14]
    simp -implicitDefEqProofs (disch := first | assumption | omega | rfl | (simp only [z_up_eq, z_up_app, ↓reduceIte, Nat.reduceEqDiff]; omega)) only [z_lit0, z_lit1, z_lit2, z_litl, iI_add, iI_sub, iI_mul, iI_neg, iI_and, iI_or, iI_xor, iI_shl, iI_shr, iI_ushr, iI_div, iI_b, iI_c, iI_i2l, lI_l2i, lI_add, lI_sub, lI_mul, lI_neg, lI_div, lI_or, lI_and, lI_shl, lI_shr, nI_iI, lg_lt0, lg_gt0, lg_eq0, i_ne0', l_ne0', iI_lt, iI_le, iI_eq, lI_lt, lI_le, lI_eq, zb_0, zb_fit, zb_fit0, zb_fit1, i_one_zero, i_w_in, z_tb0, z_tb1, z_tb2, z_tb3, z_tb4, z_tb5, z_tb6, z_tb7, z_tb8, z_tbl, z_tu0, z_tu1, z_tu2, z_i_62, z_i_63, z_i_86, z_i_88, z_l_Y, z_ui_62, z_ui_63, z_ui_86, z_ui_88, z_ul_Y, z_sz_Y, z_sw_Y, iI_nat, z_ix_t, z_at, Int.add_zero, Int.sub_zero, Int.zero_add, Int.mul_zero, ne_eq, Bool.false_eq_true, Bool.true_eq_false, reduceCtorEq, eq_self, and_true, true_and, and_false, false_and, and_self, not_true_eq_false, not_false_eq_true, decide_true, decide_false, ↓reduceIte, Int.reduceEq, Int.reduceNe, Int.reduceLT, Int.reduceLE, Int.reduceAdd, Int.reduceSub, Int.reduceMul, Int.reduceNeg, Nat.reduceAdd, Nat.reduceEqDiff, Nat.reduceBEq, ↓z_x_eq, z_g_t, z_bI_s, z_bL_s, z_bR_s, z_bV_s, Int.cast_ofNat_Int, beq_self_eq_true, Bool.and_true, Bool.true_and, Bool.and_self, Bool.or_true, Bool.true_or, Bool.false_and, Bool.and_false, Bool.false_or, Bool.or_false, Bool.not_false, Bool.not_true, if_true, if_false, ite_true, ite_false, z_up_eq, z_up_app, z_ro_eq, hf, z_up_up, e1]
    exact e
theorem p_mkeep (d : Nat) (T : ZT) (G : ZG) (s : ZG × ZG) (h7 : 0 ≤ G 81 7 ∧ G 81 7 ≤ 30) : ∃ B R', z_call (d + 2) 129 [vr 80] (z_Y T G s) = some (vi (iI 0), z_Y T (z_up G 81 (z_ro R' 7 (B 7 + 1))) s) ∧ k_md B R' (186 + 65 * B 7) ∧ ((B = G 81 ∧ G 81 7 < 30) ∨ (k_sh (G 81) B ∧ G 81 7 = 30)) := by
  by_cases c : G 81 7 = 30
  · obtain ⟨B, R', e, k1, k2⟩ := p_mk_14 d T G s c 1885 0 (G 81) (by omega) (by omega) (fun k a => rfl) (fun k a b => by omega)
    rw [z_up_id] at e
    refine ⟨B, R', ?_, by rw [k1.2.1]; exact k2, Or.inr ⟨k1, c⟩⟩
    rw [e_M_keep, k1.2.1]
    simp -implicitDefEqProofs (disch := first | assumption | omega | rfl | (simp only [z_up_eq, z_up_app, ↓reduceIte, Nat.reduceEqDiff]; omega)) only [z_lit0, z_lit1, z_lit2, z_litl, iI_add, iI_sub, iI_mul, iI_neg, iI_and, iI_or, iI_xor, iI_shl, iI_shr, iI_ushr, iI_div, iI_b, iI_c, iI_i2l, lI_l2i, lI_add, lI_sub, lI_mul, lI_neg, lI_div, lI_or, lI_and, lI_shl, lI_shr, nI_iI, lg_lt0, lg_gt0, lg_eq0, i_ne0', l_ne0', iI_lt, iI_le, iI_eq, lI_lt, lI_le, lI_eq, zb_0, zb_fit, zb_fit0, zb_fit1, i_one_zero, i_w_in, z_tb0, z_tb1, z_tb2, z_tb3, z_tb4, z_tb5, z_tb6, z_tb7, z_tb8, z_tbl, z_tu0, z_tu1, z_tu2, z_i_62, z_i_63, z_i_86, z_i_88, z_l_Y, z_ui_62, z_ui_63, z_ui_86, z_ui_88, z_ul_Y, z_sz_Y, z_sw_Y, iI_nat, z_ix_t, z_at, Int.add_zero, Int.sub_zero, Int.zero_add, Int.mul_zero, ne_eq, Bool.false_eq_true, Bool.true_eq_false, reduceCtorEq, eq_self, and_true, true_and, and_false, false_and, and_self, not_true_eq_false, not_false_eq_true, decide_true, decide_false, ↓reduceIte, Int.reduceEq, Int.reduceNe, Int.reduceLT, Int.reduceLE, Int.reduceAdd, Int.reduceSub, Int.reduceMul, Int.reduceNeg, Nat.reduceAdd, Nat.reduceEqDiff, Nat.reduceBEq, ↓z_x_eq, z_g_t, z_bI_s, z_bL_s, z_bR_s, z_bV_s, Int.cast_ofNat_Int, beq_self_eq_true, Bool.and_true, Bool.true_and, Bool.and_self, Bool.or_true, Bool.true_or, Bool.false_and, Bool.and_false, Bool.false_or, Bool.or_false, Bool.not_false, Bool.not_true, if_true, if_false, ite_true, ite_false, z_up_eq, z_up_app, z_ro_eq, c]
    exact e
  · have hx : 186 ≤ 186 + 65 * G 81 7 ∧ 186 + 65 * G 81 7 ≤ 2071 := by omega
    generalize hX : 186 + 65 * G 81 7 = x at *
    obtain ⟨R', e, k⟩ := p_mk_145 d T G s (B := G 81) (x := x) hx 10 0 (z_ro (z_ro (z_ro (z_ro (z_ro (G 81) x (G 81 1)) (x + 1) (G 81 8)) (x + 2) (G 81 3)) (x + 3) (G 81 4)) (x + 4) (G 81 11)) (by omega) (by omega) (fun k a => by rw [z_ro_ne _ _ (by omega), z_ro_ne _ _ (by omega), z_ro_ne _ _ (by omega), z_ro_ne _ _ (by omega), z_ro_ne _ _ (by omega)]) (by
      refine ⟨?_, ?_, ?_, ?_, ?_⟩
      · rw [z_ro_ne _ _ (by omega), z_ro_ne _ _ (by omega), z_ro_ne _ _ (by omega), z_ro_ne _ _ (by omega), z_ro_eq]
      · rw [z_ro_ne _ _ (by omega), z_ro_ne _ _ (by omega), z_ro_ne _ _ (by omega), z_ro_eq]
      · rw [z_ro_ne _ _ (by omega), z_ro_ne _ _ (by omega), z_ro_eq]
      · rw [z_ro_ne _ _ (by omega), z_ro_eq]
      · rw [z_ro_eq]) (fun p a b => by omega)
    refine ⟨G 81, R', ?_, by rw [hX]; exact k, Or.inl ⟨rfl, by omega⟩⟩
    have g8 : ∀ v, z_ro (G 81) x v 8 = G 81 8 := fun v => z_ro_ne _ _ (by omega)
    have g3 : ∀ v w, z_ro (z_ro (G 81) x v) (x + 1) w 3 = G 81 3 := fun v w => by rw [z_ro_ne _ _ (by omega), z_ro_ne _ _ (by omega)]
    have g4 : ∀ v w u, z_ro (z_ro (z_ro (G 81) x v) (x + 1) w) (x + 2) u 4 = G 81 4 := fun v w u => by rw [z_ro_ne _ _ (by omega), z_ro_ne _ _ (by omega), z_ro_ne _ _ (by omega)]
    have g11 : ∀ v w u t, z_ro (z_ro (z_ro (z_ro (G 81) x v) (x + 1) w) (x + 2) u) (x + 3) t 11 = G 81 11 := fun v w u t => by rw [z_ro_ne _ _ (by omega), z_ro_ne _ _ (by omega), z_ro_ne _ _ (by omega), z_ro_ne _ _ (by omega)]
    rw [e_M_keep]
    simp -implicitDefEqProofs (disch := first | assumption | omega | rfl | (simp only [z_up_eq, z_up_app, ↓reduceIte, Nat.reduceEqDiff]; omega)) only [z_lit0, z_lit1, z_lit2, z_litl, iI_add, iI_sub, iI_mul, iI_neg, iI_and, iI_or, iI_xor, iI_shl, iI_shr, iI_ushr, iI_div, iI_b, iI_c, iI_i2l, lI_l2i, lI_add, lI_sub, lI_mul, lI_neg, lI_div, lI_or, lI_and, lI_shl, lI_shr, nI_iI, lg_lt0, lg_gt0, lg_eq0, i_ne0', l_ne0', iI_lt, iI_le, iI_eq, lI_lt, lI_le, lI_eq, zb_0, zb_fit, zb_fit0, zb_fit1, i_one_zero, i_w_in, z_tb0, z_tb1, z_tb2, z_tb3, z_tb4, z_tb5, z_tb6, z_tb7, z_tb8, z_tbl, z_tu0, z_tu1, z_tu2, z_i_62, z_i_63, z_i_86, z_i_88, z_l_Y, z_ui_62, z_ui_63, z_ui_86, z_ui_88, z_ul_Y, z_sz_Y, z_sw_Y, iI_nat, z_ix_t, z_at, Int.add_zero, Int.sub_zero, Int.zero_add, Int.mul_zero, ne_eq, Bool.false_eq_true, Bool.true_eq_false, reduceCtorEq, eq_self, and_true, true_and, and_false, false_and, and_self, not_true_eq_false, not_false_eq_true, decide_true, decide_false, ↓reduceIte, Int.reduceEq, Int.reduceNe, Int.reduceLT, Int.reduceLE, Int.reduceAdd, Int.reduceSub, Int.reduceMul, Int.reduceNeg, Nat.reduceAdd, Nat.reduceEqDiff, Nat.reduceBEq, ↓z_x_eq, z_g_t, z_bI_s, z_bL_s, z_bR_s, z_bV_s, Int.cast_ofNat_Int, beq_self_eq_true, Bool.and_true, Bool.true_and, Bool.and_self, Bool.or_true, Bool.true_or, Bool.false_and, Bool.and_false, Bool.false_or, Bool.or_false, Bool.not_false, Bool.not_true, if_true, if_false, ite_true, ite_false, z_up_eq, z_up_app, z_ro_eq, c, hX, z_up_up, g8, g3, g4, g11]
    exact e
/-- System.arraycopy -/
theorem p_copy (d : Nat) (T : ZT) (G : ZG) (s : ZG × ZG) {a b la lb : Nat} {i j n : Int} (ha : ∀ G s, z_kd (z_Y T G s) a = 20 ∧ z_ln (z_Y T G s) a = la) (hb : ∀ G s, z_kd (z_Y T G s) b = 20 ∧ z_ln (z_Y T G s) b = lb) (ra : a ≠ 62 ∧ a ≠ 63 ∧ a ≠ 86 ∧ a ≠ 88) (rb : b ≠ 62 ∧ b ≠ 63 ∧ b ≠ 86 ∧ b ≠ 88) (ta : Nat.ble 10 a = true) (tb : Nat.ble 10 b = true) (hab : Nat.beq a b = false) (h : 0 ≤ i ∧ 0 ≤ j ∧ 0 ≤ n ∧ i + n ≤ la ∧ j + n ≤ lb ∧ la < 100000 ∧ lb < 100000) : z_call (d + 1) 1 [vr a, vi (iI i), vr b, vi (iI j), vi (iI n)] (z_Y T G s) = some (vi (iI 0), z_Y T (z_up G b (z_cpr (G a) (G b) i j n)) s) := by
  show z_g ((z_kd (z_Y T G s) a == 20) && (z_kd (z_Y T G s) b == 20) && Nat.ble 10 a && Nat.ble 10 b && !(Nat.beq a b) && decide (0 ≤ iI i) && decide (0 ≤ iI j) && decide (0 ≤ iI n) && Nat.ble ((iI i).toNatClampNeg + (iI n).toNatClampNeg) (z_ln (z_Y T G s) a) && Nat.ble ((iI j).toNatClampNeg + (iI n).toNatClampNeg) (z_ln (z_Y T G s) b)) (some (vi 0, z_cp (z_Y T G s) a (iI i).toNatClampNeg b (iI j).toNatClampNeg (iI n).toNatClampNeg)) = _
  have z0 : (0 : Int32) = iI 0 := rfl
  have di : decide ((0 : Int32) ≤ iI i) = true := decide_eq_true (by rw [z0, iI_le ⟨⟨by omega, by omega⟩, ⟨by omega, by omega⟩⟩]; exact h.1)
  have dj : decide ((0 : Int32) ≤ iI j) = true := decide_eq_true (by rw [z0, iI_le ⟨⟨by omega, by omega⟩, ⟨by omega, by omega⟩⟩]; exact h.2.1)
  have dn : decide ((0 : Int32) ≤ iI n) = true := decide_eq_true (by rw [z0, iI_le ⟨⟨by omega, by omega⟩, ⟨by omega, by omega⟩⟩]; exact h.2.2.1)
  have ei := iI_natn (a := i) i.toNat ⟨by omega, by omega⟩
  have ej := iI_natn (a := j) j.toNat ⟨by omega, by omega⟩
  have en := iI_natn (a := n) n.toNat ⟨by omega, by omega⟩
  rw [(ha G s).1, (hb G s).1, (ha G s).2, (hb G s).2, ta, tb, hab, di, dj, dn, ei, ej, en, Nat.ble_eq_true_of_le (show i.toNat + n.toNat ≤ la by omega), Nat.ble_eq_true_of_le (show j.toNat + n.toNat ≤ lb by omega), z_cp_Y T G s _ _ _ ra rb]
  rw [show ((i.toNat : Nat) : Int) = i by omega, show ((j.toNat : Nat) : Int) = j by omega, show ((n.toNat : Nat) : Int) = n by omega]
  rfl
theorem i_rem30 {x : Int} (h : 0 ≤ x ∧ x < 1000000) : x - i_div x 30 * 30 = x % 30 := by
  rw [i_div_in ⟨by omega, by omega⟩ ⟨by omega, by omega⟩ (by omega), Int.tdiv_eq_ediv_of_nonneg h.1]
  omega
/-- the class's kept row -/
def k_cl (G : ZG) (W : Int → Int) (y : Int) : Prop := (∀ k, k < y ∨ y + 24 ≤ k → W k = G 26 k) ∧ (∀ p, 0 ≤ p → p < 10 → W (y + p) = G 21 p ∧ W (y + 10 + p) = G 22 p) ∧ W (y + 20) = G 20 2 ∧ W (y + 21) = G 20 3 ∧ W (y + 22) = G 20 4 ∧ W (y + 23) = G 20 5
theorem p_ckeep (d : Nat) (T : ZT) (G : ZG) (s : ZG × ZG) (hn : 0 ≤ G 25 1 ∧ G 25 1 < 30) (hc : 0 ≤ G 25 2 ∧ G 25 2 ≤ 30) : ∃ W, z_call (d + 3) 122 [vr 25, vr 20] (z_Y T G s) = some (vi (iI 0), z_Y T (z_up (z_up G 25 (z_ro (z_ro (G 25) 1 ((G 25 1 + 1) % 30)) 2 (if G 25 2 < 30 then G 25 2 + 1 else G 25 2))) 26 W) s) ∧ k_cl G W (24 * G 25 1) := by
  have c1 := fun G s => p_copy d T G s (a := 21) (b := 26) (la := 10) (lb := 720) (i := 0) (j := 24 * G 25 1) (n := 10) (fun _ _ => ⟨rfl, rfl⟩) (fun _ _ => ⟨rfl, rfl⟩) (by omega) (by omega) rfl rfl rfl
  have hy : 24 * G 25 1 = G 25 1 * 24 := by omega
  generalize hY : G 25 1 * 24 = y at *
  have q1 := p_copy d T G s (a := 21) (b := 26) (la := 10) (lb := 720) (i := 0) (j := y) (n := 10) (fun _ _ => ⟨rfl, rfl⟩) (fun _ _ => ⟨rfl, rfl⟩) (by omega) (by omega) rfl rfl rfl (by omega)
  have q2 := p_copy d T (z_up G 26 (z_cpr (G 21) (G 26) 0 y 10)) s (a := 22) (b := 26) (la := 10) (lb := 720) (i := 0) (j := y + 10) (n := 10) (fun _ _ => ⟨rfl, rfl⟩) (fun _ _ => ⟨rfl, rfl⟩) (by omega) (by omega) rfl rfl rfl (by omega)
  rw [z_up_ne _ _ (show 22 ≠ 26 by omega), z_up_eq, z_up_up] at q2
  have r30 : G 25 1 + 1 - i_div (G 25 1 + 1) 30 * 30 = (G 25 1 + 1) % 30 := i_rem30 (by omega)
  have rz : z_ro (G 25) 1 ((G 25 1 + 1) % 30) 2 = G 25 2 := z_ro_ne _ _ (by omega)
  refine ⟨z_ro (z_ro (z_ro (z_ro (z_cpr (G 22) (z_cpr (G 21) (G 26) 0 y 10) 0 (y + 10) 10) (y + 20) (G 20 2)) (y + 20 + 1) (G 20 3)) (y + 20 + 2) (G 20 4)) (y + 20 + 3) (G 20 5), ?_, ?_⟩
  · rw [e_St_keep]
    by_cases c : G 25 2 < 30
    · simp -implicitDefEqProofs (disch := first | assumption | omega | rfl | (simp only [z_up_eq, z_up_app, ↓reduceIte, Nat.reduceEqDiff]; omega)) only [z_lit0, z_lit1, z_lit2, z_litl, iI_add, iI_sub, iI_mul, iI_neg, iI_and, iI_or, iI_xor, iI_shl, iI_shr, iI_ushr, iI_div, iI_b, iI_c, iI_i2l, lI_l2i, lI_add, lI_sub, lI_mul, lI_neg, lI_div, lI_or, lI_and, lI_shl, lI_shr, nI_iI, lg_lt0, lg_gt0, lg_eq0, i_ne0', l_ne0', iI_lt, iI_le, iI_eq, lI_lt, lI_le, lI_eq, zb_0, zb_fit, zb_fit0, zb_fit1, i_one_zero, i_w_in, z_tb0, z_tb1, z_tb2, z_tb3, z_tb4, z_tb5, z_tb6, z_tb7, z_tb8, z_tbl, z_tu0, z_tu1, z_tu2, z_i_62, z_i_63, z_i_86, z_i_88, z_l_Y, z_ui_62, z_ui_63, z_ui_86, z_ui_88, z_ul_Y, z_sz_Y, z_sw_Y, iI_nat, z_ix_t, z_at, Int.add_zero, Int.sub_zero, Int.zero_add, Int.mul_zero, ne_eq, Bool.false_eq_true, Bool.true_eq_false, reduceCtorEq, eq_self, and_true, true_and, and_false, false_and, and_self, not_true_eq_false, not_false_eq_true, decide_true, decide_false, ↓reduceIte, Int.reduceEq, Int.reduceNe, Int.reduceLT, Int.reduceLE, Int.reduceAdd, Int.reduceSub, Int.reduceMul, Int.reduceNeg, Nat.reduceAdd, Nat.reduceEqDiff, Nat.reduceBEq, ↓z_x_eq, z_g_t, z_bI_s, z_bL_s, z_bR_s, z_bV_s, Int.cast_ofNat_Int, beq_self_eq_true, Bool.and_true, Bool.true_and, Bool.and_self, Bool.or_true, Bool.true_or, Bool.false_and, Bool.and_false, Bool.false_or, Bool.or_false, Bool.not_false, Bool.not_true, if_true, if_false, ite_true, ite_false, z_up_eq, z_up_app, z_ro_eq, hY, e_Mo_writeTo, q1, q2, z_up_up, z_up_cm, r30, rz, c]
    · have e2 : z_ro (z_ro (G 25) 1 ((G 25 1 + 1) % 30)) 2 (G 25 2) = z_ro (G 25) 1 ((G 25 1 + 1) % 30) := by
        have := z_ro_id (z_ro (G 25) 1 ((G 25 1 + 1) % 30)) 2
        rw [rz] at this; exact this
      simp -implicitDefEqProofs (disch := first | assumption | omega | rfl | (simp only [z_up_eq, z_up_app, ↓reduceIte, Nat.reduceEqDiff]; omega)) only [z_lit0, z_lit1, z_lit2, z_litl, iI_add, iI_sub, iI_mul, iI_neg, iI_and, iI_or, iI_xor, iI_shl, iI_shr, iI_ushr, iI_div, iI_b, iI_c, iI_i2l, lI_l2i, lI_add, lI_sub, lI_mul, lI_neg, lI_div, lI_or, lI_and, lI_shl, lI_shr, nI_iI, lg_lt0, lg_gt0, lg_eq0, i_ne0', l_ne0', iI_lt, iI_le, iI_eq, lI_lt, lI_le, lI_eq, zb_0, zb_fit, zb_fit0, zb_fit1, i_one_zero, i_w_in, z_tb0, z_tb1, z_tb2, z_tb3, z_tb4, z_tb5, z_tb6, z_tb7, z_tb8, z_tbl, z_tu0, z_tu1, z_tu2, z_i_62, z_i_63, z_i_86, z_i_88, z_l_Y, z_ui_62, z_ui_63, z_ui_86, z_ui_88, z_ul_Y, z_sz_Y, z_sw_Y, iI_nat, z_ix_t, z_at, Int.add_zero, Int.sub_zero, Int.zero_add, Int.mul_zero, ne_eq, Bool.false_eq_true, Bool.true_eq_false, reduceCtorEq, eq_self, and_true, true_and, and_false, false_and, and_self, not_true_eq_false, not_false_eq_true, decide_true, decide_false, ↓reduceIte, Int.reduceEq, Int.reduceNe, Int.reduceLT, Int.reduceLE, Int.reduceAdd, Int.reduceSub, Int.reduceMul, Int.reduceNeg, Nat.reduceAdd, Nat.reduceEqDiff, Nat.reduceBEq, ↓z_x_eq, z_g_t, z_bI_s, z_bL_s, z_bR_s, z_bV_s, Int.cast_ofNat_Int, beq_self_eq_true, Bool.and_true, Bool.true_and, Bool.and_self, Bool.or_true, Bool.true_or, Bool.false_and, Bool.and_false, Bool.false_or, Bool.or_false, Bool.not_false, Bool.not_true, if_true, if_false, ite_true, ite_false, z_up_eq, z_up_app, z_ro_eq, hY, e_Mo_writeTo, q1, q2, z_up_up, z_up_cm, r30, rz, c, e2]
  · rw [hy]
    refine ⟨fun k a => ?_, fun p a b => ⟨?_, ?_⟩, ?_, ?_, ?_, ?_⟩
    · rw [z_ro_ne _ _ (by omega), z_ro_ne _ _ (by omega), z_ro_ne _ _ (by omega), z_ro_ne _ _ (by omega)]
      unfold z_cpr
      rw [if_neg (by omega), if_neg (by omega)]
    · rw [z_ro_ne _ _ (by omega), z_ro_ne _ _ (by omega), z_ro_ne _ _ (by omega), z_ro_ne _ _ (by omega)]
      unfold z_cpr
      rw [if_neg (by omega), if_pos (by omega)]
      exact f_eq (by omega)
    · rw [z_ro_ne _ _ (by omega), z_ro_ne _ _ (by omega), z_ro_ne _ _ (by omega), z_ro_ne _ _ (by omega)]
      unfold z_cpr
      rw [if_pos (by omega)]
      exact f_eq (by omega)
    · rw [z_ro_ne _ _ (by omega), z_ro_ne _ _ (by omega), z_ro_ne _ _ (by omega), z_ro_eq]
    · rw [z_ro_ne _ _ (by omega), z_ro_ne _ _ (by omega), z_ro_pos _ _ (by omega)]
    · rw [z_ro_ne _ _ (by omega), z_ro_pos _ _ (by omega)]
    · rw [z_ro_pos _ _ (by omega)]

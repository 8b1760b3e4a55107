/-! THE PURE PART, 9: the class's worth -/
def t_enc (o v : Int) : Int := if o = 0 then 2 + 64 * v else if o = 1 then 18 + v else if o = 2 then 44 else if o = 3 then 45 else if o < 9 then o - 1 else if o = 10 then 8 else if o = 11 then 16 else if o = 12 then 9 else if o = 13 then 17 else if o < 16 then o - 4 else if o = 20 then 43 else 63 - o
theorem f_eq {A : Int → Int} {a b : Int} (h : a = b) : A a = A b := by rw [h]
theorem i_div_b {x y : Int} (hx : e_b x) (hy : e_b y) : i_div x y = x.tdiv y := by
  unfold i_div
  rw [Int32.toInt_div_of_ne_left _ _ (fun e => ?_), iI_in ⟨by omega, by omega⟩, iI_in ⟨by omega, by omega⟩]
  have e2 : Int32.minValue = iI (-2147483648) := rfl
  rw [e2] at e
  have := iI_inj ⟨by omega, by omega⟩ ⟨by omega, by omega⟩ e
  omega
theorem e_clip_eq (v : Int) : max (-1000000) (min 1000000 v) = e_clip v := by unfold e_clip; split; omega; split <;> omega
theorem e_clip_in {v : Int} (h : e_b v) : e_clip v = v := by unfold e_clip; rw [if_neg (by omega), if_neg (by omega)]
theorem sLb {c : Prop} [Decidable c] {σ : ZM} : (if c then some (vl (lI 1), σ) else some (vl (lI 0), σ) : ZR) = some (vl (lI (zb (decide c))), σ) := by
  by_cases h : c
  · rw [if_pos h, decide_eq_true h]; rfl
  · rw [if_neg h, decide_eq_false h]; rfl
theorem sLn {c : Prop} [Decidable c] {σ : ZM} : (if c then some (vl (lI 0), σ) else some (vl (lI 1), σ) : ZR) = some (vl (lI (zb (decide (¬ c)))), σ) := by
  by_cases h : c
  · rw [if_pos h, decide_eq_false (fun q => q h)]; rfl
  · rw [if_neg h, decide_eq_true h]; rfl

theorem p_j3 (d : Nat) {x y : Int} (σ : ZM) (hx : e_b x) (hy : e_b y) : z_call (d + 1) 147 [vi (iI 3), vi (iI x), vi (iI y)] σ = some (vl (lI (x + y)), σ) := by
  rw [e_Br_joined]
  simp -implicitDefEqProofs (disch := first | assumption | omega | rfl) only [z_lit0, z_lit1, z_lit2, z_litl, iI_add, iI_sub, iI_mul, iI_neg, iI_and, iI_or, iI_xor, iI_shl, iI_shr, iI_ushr, iI_div, iI_b, iI_c, iI_i2l, lI_l2i, lI_add, lI_sub, lI_mul, lI_neg, lI_div, lI_or, lI_and, lI_shl, lI_shr, nI_iI, lg_lt0, lg_gt0, lg_eq0, i_ne0', l_ne0', iI_lt, iI_le, iI_eq, lI_lt, lI_le, lI_eq, zb_0, zb_fit, zb_fit0, zb_fit1, i_one_zero, i_w_in, z_tb0, z_tb1, z_tb2, z_tb3, z_tb4, z_tb5, z_tb6, z_tb7, z_tb8, z_tbl, z_tu0, z_tu1, z_tu2, z_i_62, z_i_63, z_i_86, z_i_88, z_l_Y, z_ui_62, z_ui_63, z_ui_86, z_ui_88, z_ul_Y, z_sz_Y, z_sw_Y, iI_nat, z_ix_t, z_at, Int.add_zero, Int.sub_zero, Int.zero_add, Int.mul_zero, ne_eq, Bool.false_eq_true, Bool.true_eq_false, reduceCtorEq, eq_self, and_true, true_and, and_false, false_and, and_self, not_true_eq_false, not_false_eq_true, decide_true, decide_false, ↓reduceIte, Int.reduceEq, Int.reduceNe, Int.reduceLT, Int.reduceLE, Int.reduceAdd, Int.reduceSub, Int.reduceMul, Int.reduceNeg, Nat.reduceAdd, Nat.reduceEqDiff, Nat.reduceBEq, ↓z_x_eq, z_g_t, z_bI_s, z_bL_s, z_bR_s, z_bV_s, Int.cast_ofNat_Int, beq_self_eq_true, Bool.and_true, Bool.true_and, Bool.and_self, Bool.or_true, Bool.true_or, Bool.false_and, Bool.and_false, Bool.false_or, Bool.or_false, Bool.not_false, Bool.not_true, if_true, if_false, ite_true, ite_false, z_up_eq, z_up_app, z_ro_eq]
theorem p_j4 (d : Nat) {x y : Int} (σ : ZM) (hx : e_b x) (hy : e_b y) : z_call (d + 1) 147 [vi (iI 4), vi (iI x), vi (iI y)] σ = some (vl (lI (x - y)), σ) := by
  rw [e_Br_joined]
  simp -implicitDefEqProofs (disch := first | assumption | omega | rfl) only [z_lit0, z_lit1, z_lit2, z_litl, iI_add, iI_sub, iI_mul, iI_neg, iI_and, iI_or, iI_xor, iI_shl, iI_shr, iI_ushr, iI_div, iI_b, iI_c, iI_i2l, lI_l2i, lI_add, lI_sub, lI_mul, lI_neg, lI_div, lI_or, lI_and, lI_shl, lI_shr, nI_iI, lg_lt0, lg_gt0, lg_eq0, i_ne0', l_ne0', iI_lt, iI_le, iI_eq, lI_lt, lI_le, lI_eq, zb_0, zb_fit, zb_fit0, zb_fit1, i_one_zero, i_w_in, z_tb0, z_tb1, z_tb2, z_tb3, z_tb4, z_tb5, z_tb6, z_tb7, z_tb8, z_tbl, z_tu0, z_tu1, z_tu2, z_i_62, z_i_63, z_i_86, z_i_88, z_l_Y, z_ui_62, z_ui_63, z_ui_86, z_ui_88, z_ul_Y, z_sz_Y, z_sw_Y, iI_nat, z_ix_t, z_at, Int.add_zero, Int.sub_zero, Int.zero_add, Int.mul_zero, ne_eq, Bool.false_eq_true, Bool.true_eq_false, reduceCtorEq, eq_self, and_true, true_and, and_false, false_and, and_self, not_true_eq_false, not_false_eq_true, decide_true, decide_false, ↓reduceIte, Int.reduceEq, Int.reduceNe, Int.reduceLT, Int.reduceLE, Int.reduceAdd, Int.reduceSub, Int.reduceMul, Int.reduceNeg, Nat.reduceAdd, Nat.reduceEqDiff, Nat.reduceBEq, ↓z_x_eq, z_g_t, z_bI_s, z_bL_s, z_bR_s, z_bV_s, Int.cast_ofNat_Int, beq_self_eq_true, Bool.and_true, Bool.true_and, Bool.and_self, Bool.or_true, Bool.true_or, Bool.false_and, Bool.and_false, Bool.false_or, Bool.or_false, Bool.not_false, Bool.not_true, if_true, if_false, ite_true, ite_false, z_up_eq, z_up_app, z_ro_eq]
theorem p_j5 (d : Nat) {x y : Int} (σ : ZM) (hx : e_b x) (hy : e_b y) : z_call (d + 1) 147 [vi (iI 5), vi (iI x), vi (iI y)] σ = some (vl (lI (x * y)), σ) := by
  rw [e_Br_joined]
  simp -implicitDefEqProofs (disch := first | assumption | omega | rfl) only [z_lit0, z_lit1, z_lit2, z_litl, iI_add, iI_sub, iI_mul, iI_neg, iI_and, iI_or, iI_xor, iI_shl, iI_shr, iI_ushr, iI_div, iI_b, iI_c, iI_i2l, lI_l2i, lI_add, lI_sub, lI_mul, lI_neg, lI_div, lI_or, lI_and, lI_shl, lI_shr, nI_iI, lg_lt0, lg_gt0, lg_eq0, i_ne0', l_ne0', iI_lt, iI_le, iI_eq, lI_lt, lI_le, lI_eq, zb_0, zb_fit, zb_fit0, zb_fit1, i_one_zero, i_w_in, z_tb0, z_tb1, z_tb2, z_tb3, z_tb4, z_tb5, z_tb6, z_tb7, z_tb8, z_tbl, z_tu0, z_tu1, z_tu2, z_i_62, z_i_63, z_i_86, z_i_88, z_l_Y, z_ui_62, z_ui_63, z_ui_86, z_ui_88, z_ul_Y, z_sz_Y, z_sw_Y, iI_nat, z_ix_t, z_at, Int.add_zero, Int.sub_zero, Int.zero_add, Int.mul_zero, ne_eq, Bool.false_eq_true, Bool.true_eq_false, reduceCtorEq, eq_self, and_true, true_and, and_false, false_and, and_self, not_true_eq_false, not_false_eq_true, decide_true, decide_false, ↓reduceIte, Int.reduceEq, Int.reduceNe, Int.reduceLT, Int.reduceLE, Int.reduceAdd, Int.reduceSub, Int.reduceMul, Int.reduceNeg, Nat.reduceAdd, Nat.reduceEqDiff, Nat.reduceBEq, ↓z_x_eq, z_g_t, z_bI_s, z_bL_s, z_bR_s, z_bV_s, Int.cast_ofNat_Int, beq_self_eq_true, Bool.and_true, Bool.true_and, Bool.and_self, Bool.or_true, Bool.true_or, Bool.false_and, Bool.and_false, Bool.false_or, Bool.or_false, Bool.not_false, Bool.not_true, if_true, if_false, ite_true, ite_false, z_up_eq, z_up_app, z_ro_eq]
theorem p_j6 (d : Nat) {x y : Int} (σ : ZM) (hx : e_b x) (hy : e_b y) : z_call (d + 1) 147 [vi (iI 6), vi (iI x), vi (iI y)] σ = some (vl (lI (if y = 0 then 0 else x.tdiv y)), σ) := by
  rw [e_Br_joined]
  have q := tdiv_b (y := y) hx
  by_cases h0 : y = 0
  · simp -implicitDefEqProofs (disch := first | assumption | omega | rfl) only [z_lit0, z_lit1, z_lit2, z_litl, iI_add, iI_sub, iI_mul, iI_neg, iI_and, iI_or, iI_xor, iI_shl, iI_shr, iI_ushr, iI_div, iI_b, iI_c, iI_i2l, lI_l2i, lI_add, lI_sub, lI_mul, lI_neg, lI_div, lI_or, lI_and, lI_shl, lI_shr, nI_iI, lg_lt0, lg_gt0, lg_eq0, i_ne0', l_ne0', iI_lt, iI_le, iI_eq, lI_lt, lI_le, lI_eq, zb_0, zb_fit, zb_fit0, zb_fit1, i_one_zero, i_w_in, z_tb0, z_tb1, z_tb2, z_tb3, z_tb4, z_tb5, z_tb6, z_tb7, z_tb8, z_tbl, z_tu0, z_tu1, z_tu2, z_i_62, z_i_63, z_i_86, z_i_88, z_l_Y, z_ui_62, z_ui_63, z_ui_86, z_ui_88, z_ul_Y, z_sz_Y, z_sw_Y, iI_nat, z_ix_t, z_at, Int.add_zero, Int.sub_zero, Int.zero_add, Int.mul_zero, ne_eq, Bool.false_eq_true, Bool.true_eq_false, reduceCtorEq, eq_self, and_true, true_and, and_false, false_and, and_self, not_true_eq_false, not_false_eq_true, decide_true, decide_false, ↓reduceIte, Int.reduceEq, Int.reduceNe, Int.reduceLT, Int.reduceLE, Int.reduceAdd, Int.reduceSub, Int.reduceMul, Int.reduceNeg, Nat.reduceAdd, Nat.reduceEqDiff, Nat.reduceBEq, ↓z_x_eq, z_g_t, z_bI_s, z_bL_s, z_bR_s, z_bV_s, Int.cast_ofNat_Int, beq_self_eq_true, Bool.and_true, Bool.true_and, Bool.and_self, Bool.or_true, Bool.true_or, Bool.false_and, Bool.and_false, Bool.false_or, Bool.or_false, Bool.not_false, Bool.not_true, if_true, if_false, ite_true, ite_false, z_up_eq, z_up_app, z_ro_eq, h0]
  · simp -implicitDefEqProofs (disch := first | assumption | omega | rfl) only [z_lit0, z_lit1, z_lit2, z_litl, iI_add, iI_sub, iI_mul, iI_neg, iI_and, iI_or, iI_xor, iI_shl, iI_shr, iI_ushr, iI_div, iI_b, iI_c, iI_i2l, lI_l2i, lI_add, lI_sub, lI_mul, lI_neg, lI_div, lI_or, lI_and, lI_shl, lI_shr, nI_iI, lg_lt0, lg_gt0, lg_eq0, i_ne0', l_ne0', iI_lt, iI_le, iI_eq, lI_lt, lI_le, lI_eq, zb_0, zb_fit, zb_fit0, zb_fit1, i_one_zero, i_w_in, z_tb0, z_tb1, z_tb2, z_tb3, z_tb4, z_tb5, z_tb6, z_tb7, z_tb8, z_tbl, z_tu0, z_tu1, z_tu2, z_i_62, z_i_63, z_i_86, z_i_88, z_l_Y, z_ui_62, z_ui_63, z_ui_86, z_ui_88, z_ul_Y, z_sz_Y, z_sw_Y, iI_nat, z_ix_t, z_at, Int.add_zero, Int.sub_zero, Int.zero_add, Int.mul_zero, ne_eq, Bool.false_eq_true, Bool.true_eq_false, reduceCtorEq, eq_self, and_true, true_and, and_false, false_and, and_self, not_true_eq_false, not_false_eq_true, decide_true, decide_false, ↓reduceIte, Int.reduceEq, Int.reduceNe, Int.reduceLT, Int.reduceLE, Int.reduceAdd, Int.reduceSub, Int.reduceMul, Int.reduceNeg, Nat.reduceAdd, Nat.reduceEqDiff, Nat.reduceBEq, ↓z_x_eq, z_g_t, z_bI_s, z_bL_s, z_bR_s, z_bV_s, Int.cast_ofNat_Int, beq_self_eq_true, Bool.and_true, Bool.true_and, Bool.and_self, Bool.or_true, Bool.true_or, Bool.false_and, Bool.and_false, Bool.false_or, Bool.or_false, Bool.not_false, Bool.not_true, if_true, if_false, ite_true, ite_false, z_up_eq, z_up_app, z_ro_eq, h0, i_div_b]
theorem p_j7 (d : Nat) {x y : Int} (σ : ZM) (hx : e_b x) (hy : e_b y) : z_call (d + 1) 147 [vi (iI 7), vi (iI x), vi (iI y)] σ = some (vl (lI (if y = 0 then 0 else x.tmod y)), σ) := by
  rw [e_Br_joined]
  have q := tmod_b (y := y) hx
  have h3 : x - x.tdiv y * y = x.tmod y := by rw [Int.tmod_def, Int.mul_comm]
  by_cases h0 : y = 0
  · simp -implicitDefEqProofs (disch := first | assumption | omega | rfl) only [z_lit0, z_lit1, z_lit2, z_litl, iI_add, iI_sub, iI_mul, iI_neg, iI_and, iI_or, iI_xor, iI_shl, iI_shr, iI_ushr, iI_div, iI_b, iI_c, iI_i2l, lI_l2i, lI_add, lI_sub, lI_mul, lI_neg, lI_div, lI_or, lI_and, lI_shl, lI_shr, nI_iI, lg_lt0, lg_gt0, lg_eq0, i_ne0', l_ne0', iI_lt, iI_le, iI_eq, lI_lt, lI_le, lI_eq, zb_0, zb_fit, zb_fit0, zb_fit1, i_one_zero, i_w_in, z_tb0, z_tb1, z_tb2, z_tb3, z_tb4, z_tb5, z_tb6, z_tb7, z_tb8, z_tbl, z_tu0, z_tu1, z_tu2, z_i_62, z_i_63, z_i_86, z_i_88, z_l_Y, z_ui_62, z_ui_63, z_ui_86, z_ui_88, z_ul_Y, z_sz_Y, z_sw_Y, iI_nat, z_ix_t, z_at, Int.add_zero, Int.sub_zero, Int.zero_add, Int.mul_zero, ne_eq, Bool.false_eq_true, Bool.true_eq_false, reduceCtorEq, eq_self, and_true, true_and, and_false, false_and, and_self, not_true_eq_false, not_false_eq_true, decide_true, decide_false, ↓reduceIte, Int.reduceEq, Int.reduceNe, Int.reduceLT, Int.reduceLE, Int.reduceAdd, Int.reduceSub, Int.reduceMul, Int.reduceNeg, Nat.reduceAdd, Nat.reduceEqDiff, Nat.reduceBEq, ↓z_x_eq, z_g_t, z_bI_s, z_bL_s, z_bR_s, z_bV_s, Int.cast_ofNat_Int, beq_self_eq_true, Bool.and_true, Bool.true_and, Bool.and_self, Bool.or_true, Bool.true_or, Bool.false_and, Bool.and_false, Bool.false_or, Bool.or_false, Bool.not_false, Bool.not_true, if_true, if_false, ite_true, ite_false, z_up_eq, z_up_app, z_ro_eq, h0]
  · simp -implicitDefEqProofs (disch := first | assumption | omega | rfl) only [z_lit0, z_lit1, z_lit2, z_litl, iI_add, iI_sub, iI_mul, iI_neg, iI_and, iI_or, iI_xor, iI_shl, iI_shr, iI_ushr, iI_div, iI_b, iI_c, iI_i2l, lI_l2i, lI_add, lI_sub, lI_mul, lI_neg, lI_div, lI_or, lI_and, lI_shl, lI_shr, nI_iI, lg_lt0, lg_gt0, lg_eq0, i_ne0', l_ne0', iI_lt, iI_le, iI_eq, lI_lt, lI_le, lI_eq, zb_0, zb_fit, zb_fit0, zb_fit1, i_one_zero, i_w_in, z_tb0, z_tb1, z_tb2, z_tb3, z_tb4, z_tb5, z_tb6, z_tb7, z_tb8, z_tbl, z_tu0, z_tu1, z_tu2, z_i_62, z_i_63, z_i_86, z_i_88, z_l_Y, z_ui_62, z_ui_63, z_ui_86, z_ui_88, z_ul_Y, z_sz_Y, z_sw_Y, iI_nat, z_ix_t, z_at, Int.add_zero, Int.sub_zero, Int.zero_add, Int.mul_zero, ne_eq, Bool.false_eq_true, Bool.true_eq_false, reduceCtorEq, eq_self, and_true, true_and, and_false, false_and, and_self, not_true_eq_false, not_false_eq_true, decide_true, decide_false, ↓reduceIte, Int.reduceEq, Int.reduceNe, Int.reduceLT, Int.reduceLE, Int.reduceAdd, Int.reduceSub, Int.reduceMul, Int.reduceNeg, Nat.reduceAdd, Nat.reduceEqDiff, Nat.reduceBEq, ↓z_x_eq, z_g_t, z_bI_s, z_bL_s, z_bR_s, z_bV_s, Int.cast_ofNat_Int, beq_self_eq_true, Bool.and_true, Bool.true_and, Bool.and_self, Bool.or_true, Bool.true_or, Bool.false_and, Bool.and_false, Bool.false_or, Bool.or_false, Bool.not_false, Bool.not_true, if_true, if_false, ite_true, ite_false, z_up_eq, z_up_app, z_ro_eq, h0, i_div_b, h3]
theorem p_j8 (d : Nat) {x y : Int} (σ : ZM) (hx : e_b x) (hy : e_b y) : z_call (d + 1) 147 [vi (iI 8), vi (iI x), vi (iI y)] σ = some (vl (lI (zb (decide (x < y)))), σ) := by
  rw [e_Br_joined]
  simp -implicitDefEqProofs (disch := first | assumption | omega | rfl) only [z_lit0, z_lit1, z_lit2, z_litl, iI_add, iI_sub, iI_mul, iI_neg, iI_and, iI_or, iI_xor, iI_shl, iI_shr, iI_ushr, iI_div, iI_b, iI_c, iI_i2l, lI_l2i, lI_add, lI_sub, lI_mul, lI_neg, lI_div, lI_or, lI_and, lI_shl, lI_shr, nI_iI, lg_lt0, lg_gt0, lg_eq0, i_ne0', l_ne0', iI_lt, iI_le, iI_eq, lI_lt, lI_le, lI_eq, zb_0, zb_fit, zb_fit0, zb_fit1, i_one_zero, i_w_in, z_tb0, z_tb1, z_tb2, z_tb3, z_tb4, z_tb5, z_tb6, z_tb7, z_tb8, z_tbl, z_tu0, z_tu1, z_tu2, z_i_62, z_i_63, z_i_86, z_i_88, z_l_Y, z_ui_62, z_ui_63, z_ui_86, z_ui_88, z_ul_Y, z_sz_Y, z_sw_Y, iI_nat, z_ix_t, z_at, Int.add_zero, Int.sub_zero, Int.zero_add, Int.mul_zero, ne_eq, Bool.false_eq_true, Bool.true_eq_false, reduceCtorEq, eq_self, and_true, true_and, and_false, false_and, and_self, not_true_eq_false, not_false_eq_true, decide_true, decide_false, ↓reduceIte, Int.reduceEq, Int.reduceNe, Int.reduceLT, Int.reduceLE, Int.reduceAdd, Int.reduceSub, Int.reduceMul, Int.reduceNeg, Nat.reduceAdd, Nat.reduceEqDiff, Nat.reduceBEq, ↓z_x_eq, z_g_t, z_bI_s, z_bL_s, z_bR_s, z_bV_s, Int.cast_ofNat_Int, beq_self_eq_true, Bool.and_true, Bool.true_and, Bool.and_self, Bool.or_true, Bool.true_or, Bool.false_and, Bool.and_false, Bool.false_or, Bool.or_false, Bool.not_false, Bool.not_true, if_true, if_false, ite_true, ite_false, z_up_eq, z_up_app, z_ro_eq]
  exact sLb
theorem p_j9 (d : Nat) {x y : Int} (σ : ZM) (hx : e_b x) (hy : e_b y) : z_call (d + 1) 147 [vi (iI 9), vi (iI x), vi (iI y)] σ = some (vl (lI (zb (decide (y < x)))), σ) := by
  rw [e_Br_joined]
  simp -implicitDefEqProofs (disch := first | assumption | omega | rfl) only [z_lit0, z_lit1, z_lit2, z_litl, iI_add, iI_sub, iI_mul, iI_neg, iI_and, iI_or, iI_xor, iI_shl, iI_shr, iI_ushr, iI_div, iI_b, iI_c, iI_i2l, lI_l2i, lI_add, lI_sub, lI_mul, lI_neg, lI_div, lI_or, lI_and, lI_shl, lI_shr, nI_iI, lg_lt0, lg_gt0, lg_eq0, i_ne0', l_ne0', iI_lt, iI_le, iI_eq, lI_lt, lI_le, lI_eq, zb_0, zb_fit, zb_fit0, zb_fit1, i_one_zero, i_w_in, z_tb0, z_tb1, z_tb2, z_tb3, z_tb4, z_tb5, z_tb6, z_tb7, z_tb8, z_tbl, z_tu0, z_tu1, z_tu2, z_i_62, z_i_63, z_i_86, z_i_88, z_l_Y, z_ui_62, z_ui_63, z_ui_86, z_ui_88, z_ul_Y, z_sz_Y, z_sw_Y, iI_nat, z_ix_t, z_at, Int.add_zero, Int.sub_zero, Int.zero_add, Int.mul_zero, ne_eq, Bool.false_eq_true, Bool.true_eq_false, reduceCtorEq, eq_self, and_true, true_and, and_false, false_and, and_self, not_true_eq_false, not_false_eq_true, decide_true, decide_false, ↓reduceIte, Int.reduceEq, Int.reduceNe, Int.reduceLT, Int.reduceLE, Int.reduceAdd, Int.reduceSub, Int.reduceMul, Int.reduceNeg, Nat.reduceAdd, Nat.reduceEqDiff, Nat.reduceBEq, ↓z_x_eq, z_g_t, z_bI_s, z_bL_s, z_bR_s, z_bV_s, Int.cast_ofNat_Int, beq_self_eq_true, Bool.and_true, Bool.true_and, Bool.and_self, Bool.or_true, Bool.true_or, Bool.false_and, Bool.and_false, Bool.false_or, Bool.or_false, Bool.not_false, Bool.not_true, if_true, if_false, ite_true, ite_false, z_up_eq, z_up_app, z_ro_eq]
  exact sLb
theorem p_j10 (d : Nat) {x y : Int} (σ : ZM) (hx : e_b x) (hy : e_b y) : z_call (d + 1) 147 [vi (iI 10), vi (iI x), vi (iI y)] σ = some (vl (lI (zb (decide (x = y)))), σ) := by
  rw [e_Br_joined]
  simp -implicitDefEqProofs (disch := first | assumption | omega | rfl) only [z_lit0, z_lit1, z_lit2, z_litl, iI_add, iI_sub, iI_mul, iI_neg, iI_and, iI_or, iI_xor, iI_shl, iI_shr, iI_ushr, iI_div, iI_b, iI_c, iI_i2l, lI_l2i, lI_add, lI_sub, lI_mul, lI_neg, lI_div, lI_or, lI_and, lI_shl, lI_shr, nI_iI, lg_lt0, lg_gt0, lg_eq0, i_ne0', l_ne0', iI_lt, iI_le, iI_eq, lI_lt, lI_le, lI_eq, zb_0, zb_fit, zb_fit0, zb_fit1, i_one_zero, i_w_in, z_tb0, z_tb1, z_tb2, z_tb3, z_tb4, z_tb5, z_tb6, z_tb7, z_tb8, z_tbl, z_tu0, z_tu1, z_tu2, z_i_62, z_i_63, z_i_86, z_i_88, z_l_Y, z_ui_62, z_ui_63, z_ui_86, z_ui_88, z_ul_Y, z_sz_Y, z_sw_Y, iI_nat, z_ix_t, z_at, Int.add_zero, Int.sub_zero, Int.zero_add, Int.mul_zero, ne_eq, Bool.false_eq_true, Bool.true_eq_false, reduceCtorEq, eq_self, and_true, true_and, and_false, false_and, and_self, not_true_eq_false, not_false_eq_true, decide_true, decide_false, ↓reduceIte, Int.reduceEq, Int.reduceNe, Int.reduceLT, Int.reduceLE, Int.reduceAdd, Int.reduceSub, Int.reduceMul, Int.reduceNeg, Nat.reduceAdd, Nat.reduceEqDiff, Nat.reduceBEq, ↓z_x_eq, z_g_t, z_bI_s, z_bL_s, z_bR_s, z_bV_s, Int.cast_ofNat_Int, beq_self_eq_true, Bool.and_true, Bool.true_and, Bool.and_self, Bool.or_true, Bool.true_or, Bool.false_and, Bool.and_false, Bool.false_or, Bool.or_false, Bool.not_false, Bool.not_true, if_true, if_false, ite_true, ite_false, z_up_eq, z_up_app, z_ro_eq]
  exact sLb
theorem p_j11 (d : Nat) {x y : Int} (σ : ZM) (hx : e_b x) (hy : e_b y) : z_call (d + 1) 147 [vi (iI 11), vi (iI x), vi (iI y)] σ = some (vl (lI (zb (decide (x ≠ y)))), σ) := by
  rw [e_Br_joined]
  simp -implicitDefEqProofs (disch := first | assumption | omega | rfl) only [z_lit0, z_lit1, z_lit2, z_litl, iI_add, iI_sub, iI_mul, iI_neg, iI_and, iI_or, iI_xor, iI_shl, iI_shr, iI_ushr, iI_div, iI_b, iI_c, iI_i2l, lI_l2i, lI_add, lI_sub, lI_mul, lI_neg, lI_div, lI_or, lI_and, lI_shl, lI_shr, nI_iI, lg_lt0, lg_gt0, lg_eq0, i_ne0', l_ne0', iI_lt, iI_le, iI_eq, lI_lt, lI_le, lI_eq, zb_0, zb_fit, zb_fit0, zb_fit1, i_one_zero, i_w_in, z_tb0, z_tb1, z_tb2, z_tb3, z_tb4, z_tb5, z_tb6, z_tb7, z_tb8, z_tbl, z_tu0, z_tu1, z_tu2, z_i_62, z_i_63, z_i_86, z_i_88, z_l_Y, z_ui_62, z_ui_63, z_ui_86, z_ui_88, z_ul_Y, z_sz_Y, z_sw_Y, iI_nat, z_ix_t, z_at, Int.add_zero, Int.sub_zero, Int.zero_add, Int.mul_zero, ne_eq, Bool.false_eq_true, Bool.true_eq_false, reduceCtorEq, eq_self, and_true, true_and, and_false, false_and, and_self, not_true_eq_false, not_false_eq_true, decide_true, decide_false, ↓reduceIte, Int.reduceEq, Int.reduceNe, Int.reduceLT, Int.reduceLE, Int.reduceAdd, Int.reduceSub, Int.reduceMul, Int.reduceNeg, Nat.reduceAdd, Nat.reduceEqDiff, Nat.reduceBEq, ↓z_x_eq, z_g_t, z_bI_s, z_bL_s, z_bR_s, z_bV_s, Int.cast_ofNat_Int, beq_self_eq_true, Bool.and_true, Bool.true_and, Bool.and_self, Bool.or_true, Bool.true_or, Bool.false_and, Bool.and_false, Bool.false_or, Bool.or_false, Bool.not_false, Bool.not_true, if_true, if_false, ite_true, ite_false, z_up_eq, z_up_app, z_ro_eq]
  rw [sLn]; first | done | exact sL (congrArg zb (decide_eq_decide.mpr (by omega)))
theorem p_j16 (d : Nat) {x y : Int} (σ : ZM) (hx : e_b x) (hy : e_b y) : z_call (d + 1) 147 [vi (iI 16), vi (iI x), vi (iI y)] σ = some (vl (lI (zb (decide (x ≤ y)))), σ) := by
  rw [e_Br_joined]
  simp -implicitDefEqProofs (disch := first | assumption | omega | rfl) only [z_lit0, z_lit1, z_lit2, z_litl, iI_add, iI_sub, iI_mul, iI_neg, iI_and, iI_or, iI_xor, iI_shl, iI_shr, iI_ushr, iI_div, iI_b, iI_c, iI_i2l, lI_l2i, lI_add, lI_sub, lI_mul, lI_neg, lI_div, lI_or, lI_and, lI_shl, lI_shr, nI_iI, lg_lt0, lg_gt0, lg_eq0, i_ne0', l_ne0', iI_lt, iI_le, iI_eq, lI_lt, lI_le, lI_eq, zb_0, zb_fit, zb_fit0, zb_fit1, i_one_zero, i_w_in, z_tb0, z_tb1, z_tb2, z_tb3, z_tb4, z_tb5, z_tb6, z_tb7, z_tb8, z_tbl, z_tu0, z_tu1, z_tu2, z_i_62, z_i_63, z_i_86, z_i_88, z_l_Y, z_ui_62, z_ui_63, z_ui_86, z_ui_88, z_ul_Y, z_sz_Y, z_sw_Y, iI_nat, z_ix_t, z_at, Int.add_zero, Int.sub_zero, Int.zero_add, Int.mul_zero, ne_eq, Bool.false_eq_true, Bool.true_eq_false, reduceCtorEq, eq_self, and_true, true_and, and_false, false_and, and_self, not_true_eq_false, not_false_eq_true, decide_true, decide_false, ↓reduceIte, Int.reduceEq, Int.reduceNe, Int.reduceLT, Int.reduceLE, Int.reduceAdd, Int.reduceSub, Int.reduceMul, Int.reduceNeg, Nat.reduceAdd, Nat.reduceEqDiff, Nat.reduceBEq, ↓z_x_eq, z_g_t, z_bI_s, z_bL_s, z_bR_s, z_bV_s, Int.cast_ofNat_Int, beq_self_eq_true, Bool.and_true, Bool.true_and, Bool.and_self, Bool.or_true, Bool.true_or, Bool.false_and, Bool.and_false, Bool.false_or, Bool.or_false, Bool.not_false, Bool.not_true, if_true, if_false, ite_true, ite_false, z_up_eq, z_up_app, z_ro_eq]
  rw [sLn]; first | done | exact sL (congrArg zb (decide_eq_decide.mpr (by omega)))
theorem p_j17 (d : Nat) {x y : Int} (σ : ZM) (hx : e_b x) (hy : e_b y) : z_call (d + 1) 147 [vi (iI 17), vi (iI x), vi (iI y)] σ = some (vl (lI (zb (decide (y ≤ x)))), σ) := by
  rw [e_Br_joined]
  simp -implicitDefEqProofs (disch := first | assumption | omega | rfl) only [z_lit0, z_lit1, z_lit2, z_litl, iI_add, iI_sub, iI_mul, iI_neg, iI_and, iI_or, iI_xor, iI_shl, iI_shr, iI_ushr, iI_div, iI_b, iI_c, iI_i2l, lI_l2i, lI_add, lI_sub, lI_mul, lI_neg, lI_div, lI_or, lI_and, lI_shl, lI_shr, nI_iI, lg_lt0, lg_gt0, lg_eq0, i_ne0', l_ne0', iI_lt, iI_le, iI_eq, lI_lt, lI_le, lI_eq, zb_0, zb_fit, zb_fit0, zb_fit1, i_one_zero, i_w_in, z_tb0, z_tb1, z_tb2, z_tb3, z_tb4, z_tb5, z_tb6, z_tb7, z_tb8, z_tbl, z_tu0, z_tu1, z_tu2, z_i_62, z_i_63, z_i_86, z_i_88, z_l_Y, z_ui_62, z_ui_63, z_ui_86, z_ui_88, z_ul_Y, z_sz_Y, z_sw_Y, iI_nat, z_ix_t, z_at, Int.add_zero, Int.sub_zero, Int.zero_add, Int.mul_zero, ne_eq, Bool.false_eq_true, Bool.true_eq_false, reduceCtorEq, eq_self, and_true, true_and, and_false, false_and, and_self, not_true_eq_false, not_false_eq_true, decide_true, decide_false, ↓reduceIte, Int.reduceEq, Int.reduceNe, Int.reduceLT, Int.reduceLE, Int.reduceAdd, Int.reduceSub, Int.reduceMul, Int.reduceNeg, Nat.reduceAdd, Nat.reduceEqDiff, Nat.reduceBEq, ↓z_x_eq, z_g_t, z_bI_s, z_bL_s, z_bR_s, z_bV_s, Int.cast_ofNat_Int, beq_self_eq_true, Bool.and_true, Bool.true_and, Bool.and_self, Bool.or_true, Bool.true_or, Bool.false_and, Bool.and_false, Bool.false_or, Bool.or_false, Bool.not_false, Bool.not_true, if_true, if_false, ite_true, ite_false, z_up_eq, z_up_app, z_ro_eq]
  rw [sLn]; first | done | exact sL (congrArg zb (decide_eq_decide.mpr (by omega)))
theorem p_j42 (d : Nat) {x y : Int} (σ : ZM) (hx : x = 0 ∨ x = 1) (hy : y = 0 ∨ y = 1) : z_call (d + 1) 147 [vi (iI 42), vi (iI x), vi (iI y)] σ = some (vl (lI (i_and x y)), σ) := by
  have q := e_and01 hx hy
  rw [e_Br_joined]
  simp -implicitDefEqProofs (disch := first | assumption | omega | rfl) only [z_lit0, z_lit1, z_lit2, z_litl, iI_add, iI_sub, iI_mul, iI_neg, iI_and, iI_or, iI_xor, iI_shl, iI_shr, iI_ushr, iI_div, iI_b, iI_c, iI_i2l, lI_l2i, lI_add, lI_sub, lI_mul, lI_neg, lI_div, lI_or, lI_and, lI_shl, lI_shr, nI_iI, lg_lt0, lg_gt0, lg_eq0, i_ne0', l_ne0', iI_lt, iI_le, iI_eq, lI_lt, lI_le, lI_eq, zb_0, zb_fit, zb_fit0, zb_fit1, i_one_zero, i_w_in, z_tb0, z_tb1, z_tb2, z_tb3, z_tb4, z_tb5, z_tb6, z_tb7, z_tb8, z_tbl, z_tu0, z_tu1, z_tu2, z_i_62, z_i_63, z_i_86, z_i_88, z_l_Y, z_ui_62, z_ui_63, z_ui_86, z_ui_88, z_ul_Y, z_sz_Y, z_sw_Y, iI_nat, z_ix_t, z_at, Int.add_zero, Int.sub_zero, Int.zero_add, Int.mul_zero, ne_eq, Bool.false_eq_true, Bool.true_eq_false, reduceCtorEq, eq_self, and_true, true_and, and_false, false_and, and_self, not_true_eq_false, not_false_eq_true, decide_true, decide_false, ↓reduceIte, Int.reduceEq, Int.reduceNe, Int.reduceLT, Int.reduceLE, Int.reduceAdd, Int.reduceSub, Int.reduceMul, Int.reduceNeg, Nat.reduceAdd, Nat.reduceEqDiff, Nat.reduceBEq, ↓z_x_eq, z_g_t, z_bI_s, z_bL_s, z_bR_s, z_bV_s, Int.cast_ofNat_Int, beq_self_eq_true, Bool.and_true, Bool.true_and, Bool.and_self, Bool.or_true, Bool.true_or, Bool.false_and, Bool.and_false, Bool.false_or, Bool.or_false, Bool.not_false, Bool.not_true, if_true, if_false, ite_true, ite_false, z_up_eq, z_up_app, z_ro_eq]
theorem p_j41 (d : Nat) {x y : Int} (σ : ZM) (hx : x = 0 ∨ x = 1) (hy : y = 0 ∨ y = 1) : z_call (d + 1) 147 [vi (iI 41), vi (iI x), vi (iI y)] σ = some (vl (lI (i_or x y)), σ) := by
  have q := e_or01 hx hy
  rw [e_Br_joined]
  simp -implicitDefEqProofs (disch := first | assumption | omega | rfl) only [z_lit0, z_lit1, z_lit2, z_litl, iI_add, iI_sub, iI_mul, iI_neg, iI_and, iI_or, iI_xor, iI_shl, iI_shr, iI_ushr, iI_div, iI_b, iI_c, iI_i2l, lI_l2i, lI_add, lI_sub, lI_mul, lI_neg, lI_div, lI_or, lI_and, lI_shl, lI_shr, nI_iI, lg_lt0, lg_gt0, lg_eq0, i_ne0', l_ne0', iI_lt, iI_le, iI_eq, lI_lt, lI_le, lI_eq, zb_0, zb_fit, zb_fit0, zb_fit1, i_one_zero, i_w_in, z_tb0, z_tb1, z_tb2, z_tb3, z_tb4, z_tb5, z_tb6, z_tb7, z_tb8, z_tbl, z_tu0, z_tu1, z_tu2, z_i_62, z_i_63, z_i_86, z_i_88, z_l_Y, z_ui_62, z_ui_63, z_ui_86, z_ui_88, z_ul_Y, z_sz_Y, z_sw_Y, iI_nat, z_ix_t, z_at, Int.add_zero, Int.sub_zero, Int.zero_add, Int.mul_zero, ne_eq, Bool.false_eq_true, Bool.true_eq_false, reduceCtorEq, eq_self, and_true, true_and, and_false, false_and, and_self, not_true_eq_false, not_false_eq_true, decide_true, decide_false, ↓reduceIte, Int.reduceEq, Int.reduceNe, Int.reduceLT, Int.reduceLE, Int.reduceAdd, Int.reduceSub, Int.reduceMul, Int.reduceNeg, Nat.reduceAdd, Nat.reduceEqDiff, Nat.reduceBEq, ↓z_x_eq, z_g_t, z_bI_s, z_bL_s, z_bR_s, z_bV_s, Int.cast_ofNat_Int, beq_self_eq_true, Bool.and_true, Bool.true_and, Bool.and_self, Bool.or_true, Bool.true_or, Bool.false_and, Bool.and_false, Bool.false_or, Bool.or_false, Bool.not_false, Bool.not_true, if_true, if_false, ite_true, ite_false, z_up_eq, z_up_app, z_ro_eq]
theorem rc_v {S V B : Int → Int} {n n' m i q x : Int} (h1 : ∀ k, 0 ≤ k → k < m → S k = B k) (h2 : ∀ k, 0 ≤ k → k < n → S (m + k) = V k) (hi : 0 ≤ i) (hq : q = m + i) (hn : n' ≤ n ∨ n' ≤ n + 1 ∧ i = n) : (∀ k, 0 ≤ k → k < m → z_ro S q x k = B k) ∧ (∀ k, 0 ≤ k → k < n' → z_ro S q x (m + k) = z_ro V i x k) := by
  constructor
  · intro k a b
    unfold z_ro
    rw [if_neg (by omega)]; exact h1 k a b
  · intro k a b
    unfold z_ro
    by_cases e : k = i
    · rw [if_pos (by omega), if_pos e]
    · rw [if_neg (by omega), if_neg e]; exact h2 k a (by omega)
theorem rc_b {S V B : Int → Int} {m m' i x : Int} (h1 : ∀ k, 0 ≤ k → k < m → S k = B k) (hn : m' ≤ m ∨ m' ≤ m + 1 ∧ i = m) : (∀ k, 0 ≤ k → k < m' → z_ro S i x k = z_ro B i x k) ∧ (∀ k, 0 ≤ k → k < 0 → z_ro S i x (m' + k) = V k) :=
  ⟨e_ro_q h1 rfl hn, fun k a b => by omega⟩
set_option maxHeartbeats 1000000 in
theorem p_w0 (d : Nat) (T : ZT) (G : ZG) (s : ZG × ZG) {al : Int → Bool} {N : Int → Int} {r L : Nat} {j v n m : Int} {V B : Int → Int} (hr : 98 ≤ r) (hk : ∀ G s, z_kd (z_Y T G s) r = 20) (hl : ∀ G s, z_ln (z_Y T G s) r = L) (hL : L ≤ 300) (hj : 0 ≤ j ∧ j < L) (hc : G r j = t_enc 0 v) (hN : ∀ k, al k = true → e_b (N k)) (hs : ∀ k, al k = true → s.1 62 k = N k) (w1 : 0 ≤ v) (w2 : v ≤ 9999) (w3 : n + m ≤ 62) (he : e_in (n, V, m, B)) (hR : e_rc (n, V, m, B) s) : ∃ s' q, z_w d_Br_worth (z_call (d + 1)) 4 [some (vr 61), some (vr r), some (vi (iI (n + m))), some (vi (iI j)), none, none, none] [] (z_Y T G s) = z_w d_Br_worth (z_call (d + 1)) 4 [some (vr 61), some (vr r), some (vi (iI q)), some (vi (iI (j + 1))), none, none, none] [] (z_Y T G s') ∧ q = e_n 0 n + e_m 0 m ∧ e_rc (e_stp N 0 v (n, V, m, B)) s' ∧ s'.1 62 = s.1 62 := by
  obtain ⟨h1, h2, h3, h4, h5⟩ := he
  obtain ⟨r1, r2⟩ := hR
  dsimp only at h1 h2 h3 h4 h5 r1 r2
  have hi := hj.2
  have ht : (n + m < 64) = True := eq_true (by omega)
  rw [e_Br_worth_4]
  have hc' : G r j = 2 + 64 * v := hc
  have k1 : i_and (2 + 64 * v) 63 = 2 := by rw [i_and63 ⟨by omega, by omega⟩]; omega
  have k2 : i_shr (2 + 64 * v) 6 = v := by rw [i_shr6 ⟨by omega, by omega⟩]; omega
  simp -implicitDefEqProofs (disch := first | assumption | omega | rfl) only [z_lit0, z_lit1, z_lit2, z_litl, iI_add, iI_sub, iI_mul, iI_neg, iI_and, iI_or, iI_xor, iI_shl, iI_shr, iI_ushr, iI_div, iI_b, iI_c, iI_i2l, lI_l2i, lI_add, lI_sub, lI_mul, lI_neg, lI_div, lI_or, lI_and, lI_shl, lI_shr, nI_iI, lg_lt0, lg_gt0, lg_eq0, i_ne0', l_ne0', iI_lt, iI_le, iI_eq, lI_lt, lI_le, lI_eq, zb_0, zb_fit, zb_fit0, zb_fit1, i_one_zero, i_w_in, z_tb0, z_tb1, z_tb2, z_tb3, z_tb4, z_tb5, z_tb6, z_tb7, z_tb8, z_tbl, z_tu0, z_tu1, z_tu2, z_i_62, z_i_63, z_i_86, z_i_88, z_l_Y, z_ui_62, z_ui_63, z_ui_86, z_ui_88, z_ul_Y, z_sz_Y, z_sw_Y, iI_nat, z_ix_t, z_at, Int.add_zero, Int.sub_zero, Int.zero_add, Int.mul_zero, ne_eq, Bool.false_eq_true, Bool.true_eq_false, reduceCtorEq, eq_self, and_true, true_and, and_false, false_and, and_self, not_true_eq_false, not_false_eq_true, decide_true, decide_false, ↓reduceIte, Int.reduceEq, Int.reduceNe, Int.reduceLT, Int.reduceLE, Int.reduceAdd, Int.reduceSub, Int.reduceMul, Int.reduceNeg, Nat.reduceAdd, Nat.reduceEqDiff, Nat.reduceBEq, ↓z_x_eq, z_g_t, z_bI_s, z_bL_s, z_bR_s, z_bV_s, Int.cast_ofNat_Int, beq_self_eq_true, Bool.and_true, Bool.true_and, Bool.and_self, Bool.or_true, Bool.true_or, Bool.false_and, Bool.and_false, Bool.false_or, Bool.or_false, Bool.not_false, Bool.not_true, if_true, if_false, ite_true, ite_false, z_up_eq, z_up_app, z_ro_eq, hk, hl, z_i_Y, hi, ht, hc', k1, k2]
  refine ⟨_, _, rfl, (by show n + m + 1 = n + 1 + m; omega), ?_, rfl⟩
  rw [e_s0]
  show e_rc (n + 1, z_ro V n v, m, B) _
  unfold e_rc
  dsimp only
  rw [z_up_eq]
  exact rc_v r1 r2 h1 (by omega) (Or.inr ⟨Int.le_refl _, rfl⟩)

set_option maxHeartbeats 1000000 in
theorem p_w1 (d : Nat) (T : ZT) (G : ZG) (s : ZG × ZG) {al : Int → Bool} {N : Int → Int} {r L : Nat} {j v n m : Int} {V B : Int → Int} (hr : 98 ≤ r) (hk : ∀ G s, z_kd (z_Y T G s) r = 20) (hl : ∀ G s, z_ln (z_Y T G s) r = L) (hL : L ≤ 300) (hj : 0 ≤ j ∧ j < L) (hc : G r j = t_enc 1 v) (hN : ∀ k, al k = true → e_b (N k)) (hs : ∀ k, al k = true → s.1 62 k = N k) (w1 : al v = true) (w2 : 0 ≤ v) (w3 : v ≤ 9) (w4 : n + m ≤ 62) (he : e_in (n, V, m, B)) (hR : e_rc (n, V, m, B) s) : ∃ s' q, z_w d_Br_worth (z_call (d + 1)) 4 [some (vr 61), some (vr r), some (vi (iI (n + m))), some (vi (iI j)), none, none, none] [] (z_Y T G s) = z_w d_Br_worth (z_call (d + 1)) 4 [some (vr 61), some (vr r), some (vi (iI q)), some (vi (iI (j + 1))), none, none, none] [] (z_Y T G s') ∧ q = e_n 1 n + e_m 1 m ∧ e_rc (e_stp N 1 v (n, V, m, B)) s' ∧ s'.1 62 = s.1 62 := by
  obtain ⟨h1, h2, h3, h4, h5⟩ := he
  obtain ⟨r1, r2⟩ := hR
  dsimp only at h1 h2 h3 h4 h5 r1 r2
  have hi := hj.2
  have ht : (n + m < 64) = True := eq_true (by omega)
  rw [e_Br_worth_4]
  have hc' : G r j = 18 + v := hc
  have q2 := hs _ w1
  have k1 : i_and (18 + v) 63 = 18 + v := by rw [i_and63 ⟨by omega, by omega⟩]; omega
  have k3 : 18 + v - 18 = v := by omega
  have k4 : (18 + v = 2) = False := eq_false (by omega)
  have k5 : decide (18 ≤ 18 + v ∧ 18 + v ≤ 27) = true := decide_eq_true (by omega)
  simp -implicitDefEqProofs (disch := first | assumption | omega | rfl) only [z_lit0, z_lit1, z_lit2, z_litl, iI_add, iI_sub, iI_mul, iI_neg, iI_and, iI_or, iI_xor, iI_shl, iI_shr, iI_ushr, iI_div, iI_b, iI_c, iI_i2l, lI_l2i, lI_add, lI_sub, lI_mul, lI_neg, lI_div, lI_or, lI_and, lI_shl, lI_shr, nI_iI, lg_lt0, lg_gt0, lg_eq0, i_ne0', l_ne0', iI_lt, iI_le, iI_eq, lI_lt, lI_le, lI_eq, zb_0, zb_fit, zb_fit0, zb_fit1, i_one_zero, i_w_in, z_tb0, z_tb1, z_tb2, z_tb3, z_tb4, z_tb5, z_tb6, z_tb7, z_tb8, z_tbl, z_tu0, z_tu1, z_tu2, z_i_62, z_i_63, z_i_86, z_i_88, z_l_Y, z_ui_62, z_ui_63, z_ui_86, z_ui_88, z_ul_Y, z_sz_Y, z_sw_Y, iI_nat, z_ix_t, z_at, Int.add_zero, Int.sub_zero, Int.zero_add, Int.mul_zero, ne_eq, Bool.false_eq_true, Bool.true_eq_false, reduceCtorEq, eq_self, and_true, true_and, and_false, false_and, and_self, not_true_eq_false, not_false_eq_true, decide_true, decide_false, ↓reduceIte, Int.reduceEq, Int.reduceNe, Int.reduceLT, Int.reduceLE, Int.reduceAdd, Int.reduceSub, Int.reduceMul, Int.reduceNeg, Nat.reduceAdd, Nat.reduceEqDiff, Nat.reduceBEq, ↓z_x_eq, z_g_t, z_bI_s, z_bL_s, z_bR_s, z_bV_s, Int.cast_ofNat_Int, beq_self_eq_true, Bool.and_true, Bool.true_and, Bool.and_self, Bool.or_true, Bool.true_or, Bool.false_and, Bool.and_false, Bool.false_or, Bool.or_false, Bool.not_false, Bool.not_true, if_true, if_false, ite_true, ite_false, z_up_eq, z_up_app, z_ro_eq, hk, hl, z_i_Y, hi, ht, hc', k1, k4, p_within, k5, zb_t, k3, q2]
  refine ⟨_, _, rfl, (by show n + m + 1 = n + 1 + m; omega), ?_, rfl⟩
  rw [e_s1]
  show e_rc (n + 1, z_ro V n (N v), m, B) _
  unfold e_rc
  dsimp only
  rw [z_up_eq]
  exact rc_v r1 r2 h1 (by omega) (Or.inr ⟨Int.le_refl _, rfl⟩)

set_option maxHeartbeats 1000000 in
theorem p_w2 (d : Nat) (T : ZT) (G : ZG) (s : ZG × ZG) {al : Int → Bool} {N : Int → Int} {r L : Nat} {j v n m : Int} {V B : Int → Int} (hr : 98 ≤ r) (hk : ∀ G s, z_kd (z_Y T G s) r = 20) (hl : ∀ G s, z_ln (z_Y T G s) r = L) (hL : L ≤ 300) (hj : 0 ≤ j ∧ j < L) (hc : G r j = t_enc 2 v) (hN : ∀ k, al k = true → e_b (N k)) (hs : ∀ k, al k = true → s.1 62 k = N k) (w : 3 ≤ n) (he : e_in (n, V, m, B)) (hR : e_rc (n, V, m, B) s) : ∃ s' q, z_w d_Br_worth (z_call (d + 1)) 4 [some (vr 61), some (vr r), some (vi (iI (n + m))), some (vi (iI j)), none, none, none] [] (z_Y T G s) = z_w d_Br_worth (z_call (d + 1)) 4 [some (vr 61), some (vr r), some (vi (iI q)), some (vi (iI (j + 1))), none, none, none] [] (z_Y T G s') ∧ q = e_n 2 n + e_m 2 m ∧ e_rc (e_stp N 2 v (n, V, m, B)) s' ∧ s'.1 62 = s.1 62 := by
  obtain ⟨h1, h2, h3, h4, h5⟩ := he
  obtain ⟨r1, r2⟩ := hR
  dsimp only at h1 h2 h3 h4 h5 r1 r2
  have hi := hj.2
  have ht : (n + m < 64) = True := eq_true (by omega)
  rw [e_Br_worth_4]
  have hc' : G r j = 44 := hc
  have k1 : i_and 44 63 = 44 := by decide
  have k5 : decide ((18 : Int) ≤ 44 ∧ (44 : Int) ≤ 27) = false := by decide
  have q1 := h4 (n - 3) (by omega) (by omega)
  have q2 := h4 (n - 2) (by omega) (by omega)
  have q3 := h4 (n - 1) (by omega) (by omega)
  have g1 : s.1 63 (n + m - 2 - 1) = V (n - 3) := by rw [← r2 (n - 3) (by omega) (by omega)]; exact f_eq (by omega)
  have g2 : s.1 63 (n + m - 2) = V (n - 2) := by rw [← r2 (n - 2) (by omega) (by omega)]; exact f_eq (by omega)
  have g3 : s.1 63 (n + m - 2 + 1) = V (n - 1) := by rw [← r2 (n - 1) (by omega) (by omega)]; exact f_eq (by omega)
  have a2 : n + m + -2 = n + m - 2 := by omega
  have b2 : (2 < n + m) = True := eq_true (by omega)
  simp -implicitDefEqProofs (disch := first | assumption | omega | rfl) only [z_lit0, z_lit1, z_lit2, z_litl, iI_add, iI_sub, iI_mul, iI_neg, iI_and, iI_or, iI_xor, iI_shl, iI_shr, iI_ushr, iI_div, iI_b, iI_c, iI_i2l, lI_l2i, lI_add, lI_sub, lI_mul, lI_neg, lI_div, lI_or, lI_and, lI_shl, lI_shr, nI_iI, lg_lt0, lg_gt0, lg_eq0, i_ne0', l_ne0', iI_lt, iI_le, iI_eq, lI_lt, lI_le, lI_eq, zb_0, zb_fit, zb_fit0, zb_fit1, i_one_zero, i_w_in, z_tb0, z_tb1, z_tb2, z_tb3, z_tb4, z_tb5, z_tb6, z_tb7, z_tb8, z_tbl, z_tu0, z_tu1, z_tu2, z_i_62, z_i_63, z_i_86, z_i_88, z_l_Y, z_ui_62, z_ui_63, z_ui_86, z_ui_88, z_ul_Y, z_sz_Y, z_sw_Y, iI_nat, z_ix_t, z_at, Int.add_zero, Int.sub_zero, Int.zero_add, Int.mul_zero, ne_eq, Bool.false_eq_true, Bool.true_eq_false, reduceCtorEq, eq_self, and_true, true_and, and_false, false_and, and_self, not_true_eq_false, not_false_eq_true, decide_true, decide_false, ↓reduceIte, Int.reduceEq, Int.reduceNe, Int.reduceLT, Int.reduceLE, Int.reduceAdd, Int.reduceSub, Int.reduceMul, Int.reduceNeg, Nat.reduceAdd, Nat.reduceEqDiff, Nat.reduceBEq, ↓z_x_eq, z_g_t, z_bI_s, z_bL_s, z_bR_s, z_bV_s, Int.cast_ofNat_Int, beq_self_eq_true, Bool.and_true, Bool.true_and, Bool.and_self, Bool.or_true, Bool.true_or, Bool.false_and, Bool.and_false, Bool.false_or, Bool.or_false, Bool.not_false, Bool.not_true, if_true, if_false, ite_true, ite_false, z_up_eq, z_up_app, z_ro_eq, hk, hl, z_i_Y, hi, ht, hc', k1, p_within, k5, zb_f, e_Br_worth_113, e_Br_worth_145, a2, b2, g1, g2, g3, p_min, p_max]
  refine ⟨_, _, rfl, (by show n + m - 2 = n - 2 + m; omega), ?_, rfl⟩
  rw [e_s2]
  show e_rc (n - 2, z_ro V (n - 3) (e_mid (V (n - 3)) (V (n - 2)) (V (n - 1))), m, B) _
  unfold e_rc
  dsimp only
  rw [z_up_eq]
  exact rc_v r1 r2 (by omega) (by omega) (Or.inl (by omega))

set_option maxHeartbeats 1000000 in
theorem p_w3 (d : Nat) (T : ZT) (G : ZG) (s : ZG × ZG) {al : Int → Bool} {N : Int → Int} {r L : Nat} {j v n m : Int} {V B : Int → Int} (hr : 98 ≤ r) (hk : ∀ G s, z_kd (z_Y T G s) r = 20) (hl : ∀ G s, z_ln (z_Y T G s) r = L) (hL : L ≤ 300) (hj : 0 ≤ j ∧ j < L) (hc : G r j = t_enc 3 v) (hN : ∀ k, al k = true → e_b (N k)) (hs : ∀ k, al k = true → s.1 62 k = N k) (w : 1 ≤ n) (he : e_in (n, V, m, B)) (hR : e_rc (n, V, m, B) s) : ∃ s' q, z_w d_Br_worth (z_call (d + 1)) 4 [some (vr 61), some (vr r), some (vi (iI (n + m))), some (vi (iI j)), none, none, none] [] (z_Y T G s) = z_w d_Br_worth (z_call (d + 1)) 4 [some (vr 61), some (vr r), some (vi (iI q)), some (vi (iI (j + 1))), none, none, none] [] (z_Y T G s') ∧ q = e_n 3 n + e_m 3 m ∧ e_rc (e_stp N 3 v (n, V, m, B)) s' ∧ s'.1 62 = s.1 62 := by
  obtain ⟨h1, h2, h3, h4, h5⟩ := he
  obtain ⟨r1, r2⟩ := hR
  dsimp only at h1 h2 h3 h4 h5 r1 r2
  have hi := hj.2
  have ht : (n + m < 64) = True := eq_true (by omega)
  rw [e_Br_worth_4]
  have hc' : G r j = 45 := hc
  have k1 : i_and 45 63 = 45 := by decide
  have k5 : decide ((18 : Int) ≤ 45 ∧ (45 : Int) ≤ 27) = false := by decide
  have q3 := h4 (n - 1) (by omega) (by omega)
  have g3 : s.1 63 (n + m - 1) = V (n - 1) := by rw [← r2 (n - 1) (by omega) (by omega)]; exact f_eq (by omega)
  have b2 : (0 < n + m) = True := eq_true (by omega)
  simp -implicitDefEqProofs (disch := first | assumption | omega | rfl) only [z_lit0, z_lit1, z_lit2, z_litl, iI_add, iI_sub, iI_mul, iI_neg, iI_and, iI_or, iI_xor, iI_shl, iI_shr, iI_ushr, iI_div, iI_b, iI_c, iI_i2l, lI_l2i, lI_add, lI_sub, lI_mul, lI_neg, lI_div, lI_or, lI_and, lI_shl, lI_shr, nI_iI, lg_lt0, lg_gt0, lg_eq0, i_ne0', l_ne0', iI_lt, iI_le, iI_eq, lI_lt, lI_le, lI_eq, zb_0, zb_fit, zb_fit0, zb_fit1, i_one_zero, i_w_in, z_tb0, z_tb1, z_tb2, z_tb3, z_tb4, z_tb5, z_tb6, z_tb7, z_tb8, z_tbl, z_tu0, z_tu1, z_tu2, z_i_62, z_i_63, z_i_86, z_i_88, z_l_Y, z_ui_62, z_ui_63, z_ui_86, z_ui_88, z_ul_Y, z_sz_Y, z_sw_Y, iI_nat, z_ix_t, z_at, Int.add_zero, Int.sub_zero, Int.zero_add, Int.mul_zero, ne_eq, Bool.false_eq_true, Bool.true_eq_false, reduceCtorEq, eq_self, and_true, true_and, and_false, false_and, and_self, not_true_eq_false, not_false_eq_true, decide_true, decide_false, ↓reduceIte, Int.reduceEq, Int.reduceNe, Int.reduceLT, Int.reduceLE, Int.reduceAdd, Int.reduceSub, Int.reduceMul, Int.reduceNeg, Nat.reduceAdd, Nat.reduceEqDiff, Nat.reduceBEq, ↓z_x_eq, z_g_t, z_bI_s, z_bL_s, z_bR_s, z_bV_s, Int.cast_ofNat_Int, beq_self_eq_true, Bool.and_true, Bool.true_and, Bool.and_self, Bool.or_true, Bool.true_or, Bool.false_and, Bool.and_false, Bool.false_or, Bool.or_false, Bool.not_false, Bool.not_true, if_true, if_false, ite_true, ite_false, z_up_eq, z_up_app, z_ro_eq, hk, hl, z_i_Y, hi, ht, hc', k1, p_within, k5, zb_f, b2, g3]
  refine ⟨_, _, rfl, (by show n + m = n + m; rfl), ?_, rfl⟩
  rw [e_s3]
  show e_rc (n, z_ro V (n - 1) (-V (n - 1)), m, B) _
  unfold e_rc
  dsimp only
  rw [z_up_eq]
  exact rc_v r1 r2 (by omega) (by omega) (Or.inl (by omega))

set_option maxHeartbeats 1000000 in
theorem p_w4 (d : Nat) (T : ZT) (G : ZG) (s : ZG × ZG) {al : Int → Bool} {N : Int → Int} {r L : Nat} {j v n m : Int} {V B : Int → Int} (hr : 98 ≤ r) (hk : ∀ G s, z_kd (z_Y T G s) r = 20) (hl : ∀ G s, z_ln (z_Y T G s) r = L) (hL : L ≤ 300) (hj : 0 ≤ j ∧ j < L) (hc : G r j = t_enc 4 v) (hN : ∀ k, al k = true → e_b (N k)) (hs : ∀ k, al k = true → s.1 62 k = N k) (w : 2 ≤ n) (he : e_in (n, V, m, B)) (hR : e_rc (n, V, m, B) s) : ∃ s' q, z_w d_Br_worth (z_call (d + 1)) 4 [some (vr 61), some (vr r), some (vi (iI (n + m))), some (vi (iI j)), none, none, none] [] (z_Y T G s) = z_w d_Br_worth (z_call (d + 1)) 4 [some (vr 61), some (vr r), some (vi (iI q)), some (vi (iI (j + 1))), none, none, none] [] (z_Y T G s') ∧ q = e_n 4 n + e_m 4 m ∧ e_rc (e_stp N 4 v (n, V, m, B)) s' ∧ s'.1 62 = s.1 62 := by
  obtain ⟨h1, h2, h3, h4, h5⟩ := he
  obtain ⟨r1, r2⟩ := hR
  dsimp only at h1 h2 h3 h4 h5 r1 r2
  have hi := hj.2
  have ht : (n + m < 64) = True := eq_true (by omega)
  rw [e_Br_worth_4]
  have q2 := h4 (n - 2) (by omega) (by omega)
  have q3 := h4 (n - 1) (by omega) (by omega)
  have g2 : s.1 63 (n + m - 1 - 1) = V (n - 2) := by rw [← r2 (n - 2) (by omega) (by omega)]; exact f_eq (by omega)
  have g3 : s.1 63 (n + m - 1) = V (n - 1) := by rw [← r2 (n - 1) (by omega) (by omega)]; exact f_eq (by omega)
  have a2 : n + m + -1 = n + m - 1 := by omega
  have b2 : (1 < n + m) = True := eq_true (by omega)
  have hm := mul_b q2 q3
  have hd := tdiv_b (y := V (n - 1)) q2
  have ht2 := tmod_b (y := V (n - 1)) q2
  have hc' : G r j = 3 := hc
  have k1 : i_and 3 63 = 3 := by decide
  have k5 : decide ((18 : Int) ≤ 3 ∧ (3 : Int) ≤ 27) = false := by decide
  have hwb : -1000000000000 ≤ V (n - 2) + V (n - 1) ∧ V (n - 2) + V (n - 1) ≤ 1000000000000 := by exact ⟨by omega, by omega⟩
  have hwe : e_clip (V (n - 2) + V (n - 1)) = e_two 4 (V (n - 2)) (V (n - 1)) := by simp [e_two]
  generalize hw0 : V (n - 2) + V (n - 1) = w0 at hwb hwe
  have pj := fun σ => p_j3 d σ q2 q3
  rw [hw0] at pj
  simp -implicitDefEqProofs (disch := first | assumption | omega | rfl) only [z_lit0, z_lit1, z_lit2, z_litl, iI_add, iI_sub, iI_mul, iI_neg, iI_and, iI_or, iI_xor, iI_shl, iI_shr, iI_ushr, iI_div, iI_b, iI_c, iI_i2l, lI_l2i, lI_add, lI_sub, lI_mul, lI_neg, lI_div, lI_or, lI_and, lI_shl, lI_shr, nI_iI, lg_lt0, lg_gt0, lg_eq0, i_ne0', l_ne0', iI_lt, iI_le, iI_eq, lI_lt, lI_le, lI_eq, zb_0, zb_fit, zb_fit0, zb_fit1, i_one_zero, i_w_in, z_tb0, z_tb1, z_tb2, z_tb3, z_tb4, z_tb5, z_tb6, z_tb7, z_tb8, z_tbl, z_tu0, z_tu1, z_tu2, z_i_62, z_i_63, z_i_86, z_i_88, z_l_Y, z_ui_62, z_ui_63, z_ui_86, z_ui_88, z_ul_Y, z_sz_Y, z_sw_Y, iI_nat, z_ix_t, z_at, Int.add_zero, Int.sub_zero, Int.zero_add, Int.mul_zero, ne_eq, Bool.false_eq_true, Bool.true_eq_false, reduceCtorEq, eq_self, and_true, true_and, and_false, false_and, and_self, not_true_eq_false, not_false_eq_true, decide_true, decide_false, ↓reduceIte, Int.reduceEq, Int.reduceNe, Int.reduceLT, Int.reduceLE, Int.reduceAdd, Int.reduceSub, Int.reduceMul, Int.reduceNeg, Nat.reduceAdd, Nat.reduceEqDiff, Nat.reduceBEq, ↓z_x_eq, z_g_t, z_bI_s, z_bL_s, z_bR_s, z_bV_s, Int.cast_ofNat_Int, beq_self_eq_true, Bool.and_true, Bool.true_and, Bool.and_self, Bool.or_true, Bool.true_or, Bool.false_and, Bool.and_false, Bool.false_or, Bool.or_false, Bool.not_false, Bool.not_true, if_true, if_false, ite_true, ite_false, z_up_eq, z_up_app, z_ro_eq, hk, hl, z_i_Y, hi, ht, hc', k1, p_within, k5, zb_f, e_Br_worth_113, e_Br_worth_145, e_Br_worth_227, a2, b2, g2, g3, pj, p_minl, p_maxl, e_clip_eq, hwe]
  refine ⟨_, _, rfl, (by show n + m - 1 = n - 1 + m; omega), ?_, rfl⟩
  rw [e_s4]
  show e_rc (n - 1, z_ro V (n - 2) (e_two 4 (V (n - 2)) (V (n - 1))), m, B) _
  unfold e_rc
  dsimp only
  rw [z_up_eq]
  exact rc_v r1 r2 (by omega) (by omega) (Or.inl (by omega))

set_option maxHeartbeats 1000000 in
theorem p_w5 (d : Nat) (T : ZT) (G : ZG) (s : ZG × ZG) {al : Int → Bool} {N : Int → Int} {r L : Nat} {j v n m : Int} {V B : Int → Int} (hr : 98 ≤ r) (hk : ∀ G s, z_kd (z_Y T G s) r = 20) (hl : ∀ G s, z_ln (z_Y T G s) r = L) (hL : L ≤ 300) (hj : 0 ≤ j ∧ j < L) (hc : G r j = t_enc 5 v) (hN : ∀ k, al k = true → e_b (N k)) (hs : ∀ k, al k = true → s.1 62 k = N k) (w : 2 ≤ n) (he : e_in (n, V, m, B)) (hR : e_rc (n, V, m, B) s) : ∃ s' q, z_w d_Br_worth (z_call (d + 1)) 4 [some (vr 61), some (vr r), some (vi (iI (n + m))), some (vi (iI j)), none, none, none] [] (z_Y T G s) = z_w d_Br_worth (z_call (d + 1)) 4 [some (vr 61), some (vr r), some (vi (iI q)), some (vi (iI (j + 1))), none, none, none] [] (z_Y T G s') ∧ q = e_n 5 n + e_m 5 m ∧ e_rc (e_stp N 5 v (n, V, m, B)) s' ∧ s'.1 62 = s.1 62 := by
  obtain ⟨h1, h2, h3, h4, h5⟩ := he
  obtain ⟨r1, r2⟩ := hR
  dsimp only at h1 h2 h3 h4 h5 r1 r2
  have hi := hj.2
  have ht : (n + m < 64) = True := eq_true (by omega)
  rw [e_Br_worth_4]
  have q2 := h4 (n - 2) (by omega) (by omega)
  have q3 := h4 (n - 1) (by omega) (by omega)
  have g2 : s.1 63 (n + m - 1 - 1) = V (n - 2) := by rw [← r2 (n - 2) (by omega) (by omega)]; exact f_eq (by omega)
  have g3 : s.1 63 (n + m - 1) = V (n - 1) := by rw [← r2 (n - 1) (by omega) (by omega)]; exact f_eq (by omega)
  have a2 : n + m + -1 = n + m - 1 := by omega
  have b2 : (1 < n + m) = True := eq_true (by omega)
  have hm := mul_b q2 q3
  have hd := tdiv_b (y := V (n - 1)) q2
  have ht2 := tmod_b (y := V (n - 1)) q2
  have hc' : G r j = 4 := hc
  have k1 : i_and 4 63 = 4 := by decide
  have k5 : decide ((18 : Int) ≤ 4 ∧ (4 : Int) ≤ 27) = false := by decide
  have hwb : -1000000000000 ≤ V (n - 2) - V (n - 1) ∧ V (n - 2) - V (n - 1) ≤ 1000000000000 := by exact ⟨by omega, by omega⟩
  have hwe : e_clip (V (n - 2) - V (n - 1)) = e_two 5 (V (n - 2)) (V (n - 1)) := by simp [e_two]
  generalize hw0 : V (n - 2) - V (n - 1) = w0 at hwb hwe
  have pj := fun σ => p_j4 d σ q2 q3
  rw [hw0] at pj
  simp -implicitDefEqProofs (disch := first | assumption | omega | rfl) only [z_lit0, z_lit1, z_lit2, z_litl, iI_add, iI_sub, iI_mul, iI_neg, iI_and, iI_or, iI_xor, iI_shl, iI_shr, iI_ushr, iI_div, iI_b, iI_c, iI_i2l, lI_l2i, lI_add, lI_sub, lI_mul, lI_neg, lI_div, lI_or, lI_and, lI_shl, lI_shr, nI_iI, lg_lt0, lg_gt0, lg_eq0, i_ne0', l_ne0', iI_lt, iI_le, iI_eq, lI_lt, lI_le, lI_eq, zb_0, zb_fit, zb_fit0, zb_fit1, i_one_zero, i_w_in, z_tb0, z_tb1, z_tb2, z_tb3, z_tb4, z_tb5, z_tb6, z_tb7, z_tb8, z_tbl, z_tu0, z_tu1, z_tu2, z_i_62, z_i_63, z_i_86, z_i_88, z_l_Y, z_ui_62, z_ui_63, z_ui_86, z_ui_88, z_ul_Y, z_sz_Y, z_sw_Y, iI_nat, z_ix_t, z_at, Int.add_zero, Int.sub_zero, Int.zero_add, Int.mul_zero, ne_eq, Bool.false_eq_true, Bool.true_eq_false, reduceCtorEq, eq_self, and_true, true_and, and_false, false_and, and_self, not_true_eq_false, not_false_eq_true, decide_true, decide_false, ↓reduceIte, Int.reduceEq, Int.reduceNe, Int.reduceLT, Int.reduceLE, Int.reduceAdd, Int.reduceSub, Int.reduceMul, Int.reduceNeg, Nat.reduceAdd, Nat.reduceEqDiff, Nat.reduceBEq, ↓z_x_eq, z_g_t, z_bI_s, z_bL_s, z_bR_s, z_bV_s, Int.cast_ofNat_Int, beq_self_eq_true, Bool.and_true, Bool.true_and, Bool.and_self, Bool.or_true, Bool.true_or, Bool.false_and, Bool.and_false, Bool.false_or, Bool.or_false, Bool.not_false, Bool.not_true, if_true, if_false, ite_true, ite_false, z_up_eq, z_up_app, z_ro_eq, hk, hl, z_i_Y, hi, ht, hc', k1, p_within, k5, zb_f, e_Br_worth_113, e_Br_worth_145, e_Br_worth_227, a2, b2, g2, g3, pj, p_minl, p_maxl, e_clip_eq, hwe]
  refine ⟨_, _, rfl, (by show n + m - 1 = n - 1 + m; omega), ?_, rfl⟩
  rw [e_s5]
  show e_rc (n - 1, z_ro V (n - 2) (e_two 5 (V (n - 2)) (V (n - 1))), m, B) _
  unfold e_rc
  dsimp only
  rw [z_up_eq]
  exact rc_v r1 r2 (by omega) (by omega) (Or.inl (by omega))

set_option maxHeartbeats 1000000 in
theorem p_w6 (d : Nat) (T : ZT) (G : ZG) (s : ZG × ZG) {al : Int → Bool} {N : Int → Int} {r L : Nat} {j v n m : Int} {V B : Int → Int} (hr : 98 ≤ r) (hk : ∀ G s, z_kd (z_Y T G s) r = 20) (hl : ∀ G s, z_ln (z_Y T G s) r = L) (hL : L ≤ 300) (hj : 0 ≤ j ∧ j < L) (hc : G r j = t_enc 6 v) (hN : ∀ k, al k = true → e_b (N k)) (hs : ∀ k, al k = true → s.1 62 k = N k) (w : 2 ≤ n) (he : e_in (n, V, m, B)) (hR : e_rc (n, V, m, B) s) : ∃ s' q, z_w d_Br_worth (z_call (d + 1)) 4 [some (vr 61), some (vr r), some (vi (iI (n + m))), some (vi (iI j)), none, none, none] [] (z_Y T G s) = z_w d_Br_worth (z_call (d + 1)) 4 [some (vr 61), some (vr r), some (vi (iI q)), some (vi (iI (j + 1))), none, none, none] [] (z_Y T G s') ∧ q = e_n 6 n + e_m 6 m ∧ e_rc (e_stp N 6 v (n, V, m, B)) s' ∧ s'.1 62 = s.1 62 := by
  obtain ⟨h1, h2, h3, h4, h5⟩ := he
  obtain ⟨r1, r2⟩ := hR
  dsimp only at h1 h2 h3 h4 h5 r1 r2
  have hi := hj.2
  have ht : (n + m < 64) = True := eq_true (by omega)
  rw [e_Br_worth_4]
  have q2 := h4 (n - 2) (by omega) (by omega)
  have q3 := h4 (n - 1) (by omega) (by omega)
  have g2 : s.1 63 (n + m - 1 - 1) = V (n - 2) := by rw [← r2 (n - 2) (by omega) (by omega)]; exact f_eq (by omega)
  have g3 : s.1 63 (n + m - 1) = V (n - 1) := by rw [← r2 (n - 1) (by omega) (by omega)]; exact f_eq (by omega)
  have a2 : n + m + -1 = n + m - 1 := by omega
  have b2 : (1 < n + m) = True := eq_true (by omega)
  have hm := mul_b q2 q3
  have hd := tdiv_b (y := V (n - 1)) q2
  have ht2 := tmod_b (y := V (n - 1)) q2
  have hc' : G r j = 5 := hc
  have k1 : i_and 5 63 = 5 := by decide
  have k5 : decide ((18 : Int) ≤ 5 ∧ (5 : Int) ≤ 27) = false := by decide
  have hwb : -1000000000000 ≤ V (n - 2) * V (n - 1) ∧ V (n - 2) * V (n - 1) ≤ 1000000000000 := by exact ⟨by omega, by omega⟩
  have hwe : e_clip (V (n - 2) * V (n - 1)) = e_two 6 (V (n - 2)) (V (n - 1)) := by simp [e_two]
  generalize hw0 : V (n - 2) * V (n - 1) = w0 at hwb hwe
  have pj := fun σ => p_j5 d σ q2 q3
  rw [hw0] at pj
  simp -implicitDefEqProofs (disch := first | assumption | omega | rfl) only [z_lit0, z_lit1, z_lit2, z_litl, iI_add, iI_sub, iI_mul, iI_neg, iI_and, iI_or, iI_xor, iI_shl, iI_shr, iI_ushr, iI_div, iI_b, iI_c, iI_i2l, lI_l2i, lI_add, lI_sub, lI_mul, lI_neg, lI_div, lI_or, lI_and, lI_shl, lI_shr, nI_iI, lg_lt0, lg_gt0, lg_eq0, i_ne0', l_ne0', iI_lt, iI_le, iI_eq, lI_lt, lI_le, lI_eq, zb_0, zb_fit, zb_fit0, zb_fit1, i_one_zero, i_w_in, z_tb0, z_tb1, z_tb2, z_tb3, z_tb4, z_tb5, z_tb6, z_tb7, z_tb8, z_tbl, z_tu0, z_tu1, z_tu2, z_i_62, z_i_63, z_i_86, z_i_88, z_l_Y, z_ui_62, z_ui_63, z_ui_86, z_ui_88, z_ul_Y, z_sz_Y, z_sw_Y, iI_nat, z_ix_t, z_at, Int.add_zero, Int.sub_zero, Int.zero_add, Int.mul_zero, ne_eq, Bool.false_eq_true, Bool.true_eq_false, reduceCtorEq, eq_self, and_true, true_and, and_false, false_and, and_self, not_true_eq_false, not_false_eq_true, decide_true, decide_false, ↓reduceIte, Int.reduceEq, Int.reduceNe, Int.reduceLT, Int.reduceLE, Int.reduceAdd, Int.reduceSub, Int.reduceMul, Int.reduceNeg, Nat.reduceAdd, Nat.reduceEqDiff, Nat.reduceBEq, ↓z_x_eq, z_g_t, z_bI_s, z_bL_s, z_bR_s, z_bV_s, Int.cast_ofNat_Int, beq_self_eq_true, Bool.and_true, Bool.true_and, Bool.and_self, Bool.or_true, Bool.true_or, Bool.false_and, Bool.and_false, Bool.false_or, Bool.or_false, Bool.not_false, Bool.not_true, if_true, if_false, ite_true, ite_false, z_up_eq, z_up_app, z_ro_eq, hk, hl, z_i_Y, hi, ht, hc', k1, p_within, k5, zb_f, e_Br_worth_113, e_Br_worth_145, e_Br_worth_227, a2, b2, g2, g3, pj, p_minl, p_maxl, e_clip_eq, hwe]
  refine ⟨_, _, rfl, (by show n + m - 1 = n - 1 + m; omega), ?_, rfl⟩
  rw [e_s6]
  show e_rc (n - 1, z_ro V (n - 2) (e_two 6 (V (n - 2)) (V (n - 1))), m, B) _
  unfold e_rc
  dsimp only
  rw [z_up_eq]
  exact rc_v r1 r2 (by omega) (by omega) (Or.inl (by omega))

set_option maxHeartbeats 1000000 in
theorem p_w7 (d : Nat) (T : ZT) (G : ZG) (s : ZG × ZG) {al : Int → Bool} {N : Int → Int} {r L : Nat} {j v n m : Int} {V B : Int → Int} (hr : 98 ≤ r) (hk : ∀ G s, z_kd (z_Y T G s) r = 20) (hl : ∀ G s, z_ln (z_Y T G s) r = L) (hL : L ≤ 300) (hj : 0 ≤ j ∧ j < L) (hc : G r j = t_enc 7 v) (hN : ∀ k, al k = true → e_b (N k)) (hs : ∀ k, al k = true → s.1 62 k = N k) (w : 2 ≤ n) (he : e_in (n, V, m, B)) (hR : e_rc (n, V, m, B) s) : ∃ s' q, z_w d_Br_worth (z_call (d + 1)) 4 [some (vr 61), some (vr r), some (vi (iI (n + m))), some (vi (iI j)), none, none, none] [] (z_Y T G s) = z_w d_Br_worth (z_call (d + 1)) 4 [some (vr 61), some (vr r), some (vi (iI q)), some (vi (iI (j + 1))), none, none, none] [] (z_Y T G s') ∧ q = e_n 7 n + e_m 7 m ∧ e_rc (e_stp N 7 v (n, V, m, B)) s' ∧ s'.1 62 = s.1 62 := by
  obtain ⟨h1, h2, h3, h4, h5⟩ := he
  obtain ⟨r1, r2⟩ := hR
  dsimp only at h1 h2 h3 h4 h5 r1 r2
  have hi := hj.2
  have ht : (n + m < 64) = True := eq_true (by omega)
  rw [e_Br_worth_4]
  have q2 := h4 (n - 2) (by omega) (by omega)
  have q3 := h4 (n - 1) (by omega) (by omega)
  have g2 : s.1 63 (n + m - 1 - 1) = V (n - 2) := by rw [← r2 (n - 2) (by omega) (by omega)]; exact f_eq (by omega)
  have g3 : s.1 63 (n + m - 1) = V (n - 1) := by rw [← r2 (n - 1) (by omega) (by omega)]; exact f_eq (by omega)
  have a2 : n + m + -1 = n + m - 1 := by omega
  have b2 : (1 < n + m) = True := eq_true (by omega)
  have hm := mul_b q2 q3
  have hd := tdiv_b (y := V (n - 1)) q2
  have ht2 := tmod_b (y := V (n - 1)) q2
  have hc' : G r j = 6 := hc
  have k1 : i_and 6 63 = 6 := by decide
  have k5 : decide ((18 : Int) ≤ 6 ∧ (6 : Int) ≤ 27) = false := by decide
  have hwb : -1000000000000 ≤ (if V (n - 1) = 0 then 0 else (V (n - 2)).tdiv (V (n - 1))) ∧ (if V (n - 1) = 0 then 0 else (V (n - 2)).tdiv (V (n - 1))) ≤ 1000000000000 := by split <;> omega
  have hwe : e_clip ((if V (n - 1) = 0 then 0 else (V (n - 2)).tdiv (V (n - 1)))) = e_two 7 (V (n - 2)) (V (n - 1)) := by (show e_clip _ = if V (n - 1) = 0 then 0 else _; rw [e_clip_in]; split <;> (unfold e_b at *; omega))
  generalize hw0 : (if V (n - 1) = 0 then 0 else (V (n - 2)).tdiv (V (n - 1))) = w0 at hwb hwe
  have pj := fun σ => p_j6 d σ q2 q3
  rw [hw0] at pj
  simp -implicitDefEqProofs (disch := first | assumption | omega | rfl) only [z_lit0, z_lit1, z_lit2, z_litl, iI_add, iI_sub, iI_mul, iI_neg, iI_and, iI_or, iI_xor, iI_shl, iI_shr, iI_ushr, iI_div, iI_b, iI_c, iI_i2l, lI_l2i, lI_add, lI_sub, lI_mul, lI_neg, lI_div, lI_or, lI_and, lI_shl, lI_shr, nI_iI, lg_lt0, lg_gt0, lg_eq0, i_ne0', l_ne0', iI_lt, iI_le, iI_eq, lI_lt, lI_le, lI_eq, zb_0, zb_fit, zb_fit0, zb_fit1, i_one_zero, i_w_in, z_tb0, z_tb1, z_tb2, z_tb3, z_tb4, z_tb5, z_tb6, z_tb7, z_tb8, z_tbl, z_tu0, z_tu1, z_tu2, z_i_62, z_i_63, z_i_86, z_i_88, z_l_Y, z_ui_62, z_ui_63, z_ui_86, z_ui_88, z_ul_Y, z_sz_Y, z_sw_Y, iI_nat, z_ix_t, z_at, Int.add_zero, Int.sub_zero, Int.zero_add, Int.mul_zero, ne_eq, Bool.false_eq_true, Bool.true_eq_false, reduceCtorEq, eq_self, and_true, true_and, and_false, false_and, and_self, not_true_eq_false, not_false_eq_true, decide_true, decide_false, ↓reduceIte, Int.reduceEq, Int.reduceNe, Int.reduceLT, Int.reduceLE, Int.reduceAdd, Int.reduceSub, Int.reduceMul, Int.reduceNeg, Nat.reduceAdd, Nat.reduceEqDiff, Nat.reduceBEq, ↓z_x_eq, z_g_t, z_bI_s, z_bL_s, z_bR_s, z_bV_s, Int.cast_ofNat_Int, beq_self_eq_true, Bool.and_true, Bool.true_and, Bool.and_self, Bool.or_true, Bool.true_or, Bool.false_and, Bool.and_false, Bool.false_or, Bool.or_false, Bool.not_false, Bool.not_true, if_true, if_false, ite_true, ite_false, z_up_eq, z_up_app, z_ro_eq, hk, hl, z_i_Y, hi, ht, hc', k1, p_within, k5, zb_f, e_Br_worth_113, e_Br_worth_145, e_Br_worth_227, a2, b2, g2, g3, pj, p_minl, p_maxl, e_clip_eq, hwe]
  refine ⟨_, _, rfl, (by show n + m - 1 = n - 1 + m; omega), ?_, rfl⟩
  rw [e_s7]
  show e_rc (n - 1, z_ro V (n - 2) (e_two 7 (V (n - 2)) (V (n - 1))), m, B) _
  unfold e_rc
  dsimp only
  rw [z_up_eq]
  exact rc_v r1 r2 (by omega) (by omega) (Or.inl (by omega))

set_option maxHeartbeats 1000000 in
theorem p_w8 (d : Nat) (T : ZT) (G : ZG) (s : ZG × ZG) {al : Int → Bool} {N : Int → Int} {r L : Nat} {j v n m : Int} {V B : Int → Int} (hr : 98 ≤ r) (hk : ∀ G s, z_kd (z_Y T G s) r = 20) (hl : ∀ G s, z_ln (z_Y T G s) r = L) (hL : L ≤ 300) (hj : 0 ≤ j ∧ j < L) (hc : G r j = t_enc 8 v) (hN : ∀ k, al k = true → e_b (N k)) (hs : ∀ k, al k = true → s.1 62 k = N k) (w : 2 ≤ n) (he : e_in (n, V, m, B)) (hR : e_rc (n, V, m, B) s) : ∃ s' q, z_w d_Br_worth (z_call (d + 1)) 4 [some (vr 61), some (vr r), some (vi (iI (n + m))), some (vi (iI j)), none, none, none] [] (z_Y T G s) = z_w d_Br_worth (z_call (d + 1)) 4 [some (vr 61), some (vr r), some (vi (iI q)), some (vi (iI (j + 1))), none, none, none] [] (z_Y T G s') ∧ q = e_n 8 n + e_m 8 m ∧ e_rc (e_stp N 8 v (n, V, m, B)) s' ∧ s'.1 62 = s.1 62 := by
  obtain ⟨h1, h2, h3, h4, h5⟩ := he
  obtain ⟨r1, r2⟩ := hR
  dsimp only at h1 h2 h3 h4 h5 r1 r2
  have hi := hj.2
  have ht : (n + m < 64) = True := eq_true (by omega)
  rw [e_Br_worth_4]
  have q2 := h4 (n - 2) (by omega) (by omega)
  have q3 := h4 (n - 1) (by omega) (by omega)
  have g2 : s.1 63 (n + m - 1 - 1) = V (n - 2) := by rw [← r2 (n - 2) (by omega) (by omega)]; exact f_eq (by omega)
  have g3 : s.1 63 (n + m - 1) = V (n - 1) := by rw [← r2 (n - 1) (by omega) (by omega)]; exact f_eq (by omega)
  have a2 : n + m + -1 = n + m - 1 := by omega
  have b2 : (1 < n + m) = True := eq_true (by omega)
  have hm := mul_b q2 q3
  have hd := tdiv_b (y := V (n - 1)) q2
  have ht2 := tmod_b (y := V (n - 1)) q2
  have hc' : G r j = 7 := hc
  have k1 : i_and 7 63 = 7 := by decide
  have k5 : decide ((18 : Int) ≤ 7 ∧ (7 : Int) ≤ 27) = false := by decide
  have hwb : -1000000000000 ≤ (if V (n - 1) = 0 then 0 else (V (n - 2)).tmod (V (n - 1))) ∧ (if V (n - 1) = 0 then 0 else (V (n - 2)).tmod (V (n - 1))) ≤ 1000000000000 := by split <;> omega
  have hwe : e_clip ((if V (n - 1) = 0 then 0 else (V (n - 2)).tmod (V (n - 1)))) = e_two 8 (V (n - 2)) (V (n - 1)) := by (show e_clip _ = if V (n - 1) = 0 then 0 else _; rw [e_clip_in]; split <;> (unfold e_b at *; omega))
  generalize hw0 : (if V (n - 1) = 0 then 0 else (V (n - 2)).tmod (V (n - 1))) = w0 at hwb hwe
  have pj := fun σ => p_j7 d σ q2 q3
  rw [hw0] at pj
  simp -implicitDefEqProofs (disch := first | assumption | omega | rfl) only [z_lit0, z_lit1, z_lit2, z_litl, iI_add, iI_sub, iI_mul, iI_neg, iI_and, iI_or, iI_xor, iI_shl, iI_shr, iI_ushr, iI_div, iI_b, iI_c, iI_i2l, lI_l2i, lI_add, lI_sub, lI_mul, lI_neg, lI_div, lI_or, lI_and, lI_shl, lI_shr, nI_iI, lg_lt0, lg_gt0, lg_eq0, i_ne0', l_ne0', iI_lt, iI_le, iI_eq, lI_lt, lI_le, lI_eq, zb_0, zb_fit, zb_fit0, zb_fit1, i_one_zero, i_w_in, z_tb0, z_tb1, z_tb2, z_tb3, z_tb4, z_tb5, z_tb6, z_tb7, z_tb8, z_tbl, z_tu0, z_tu1, z_tu2, z_i_62, z_i_63, z_i_86, z_i_88, z_l_Y, z_ui_62, z_ui_63, z_ui_86, z_ui_88, z_ul_Y, z_sz_Y, z_sw_Y, iI_nat, z_ix_t, z_at, Int.add_zero, Int.sub_zero, Int.zero_add, Int.mul_zero, ne_eq, Bool.false_eq_true, Bool.true_eq_false, reduceCtorEq, eq_self, and_true, true_and, and_false, false_and, and_self, not_true_eq_false, not_false_eq_true, decide_true, decide_false, ↓reduceIte, Int.reduceEq, Int.reduceNe, Int.reduceLT, Int.reduceLE, Int.reduceAdd, Int.reduceSub, Int.reduceMul, Int.reduceNeg, Nat.reduceAdd, Nat.reduceEqDiff, Nat.reduceBEq, ↓z_x_eq, z_g_t, z_bI_s, z_bL_s, z_bR_s, z_bV_s, Int.cast_ofNat_Int, beq_self_eq_true, Bool.and_true, Bool.true_and, Bool.and_self, Bool.or_true, Bool.true_or, Bool.false_and, Bool.and_false, Bool.false_or, Bool.or_false, Bool.not_false, Bool.not_true, if_true, if_false, ite_true, ite_false, z_up_eq, z_up_app, z_ro_eq, hk, hl, z_i_Y, hi, ht, hc', k1, p_within, k5, zb_f, e_Br_worth_113, e_Br_worth_145, e_Br_worth_227, a2, b2, g2, g3, pj, p_minl, p_maxl, e_clip_eq, hwe]
  refine ⟨_, _, rfl, (by show n + m - 1 = n - 1 + m; omega), ?_, rfl⟩
  rw [e_s8]
  show e_rc (n - 1, z_ro V (n - 2) (e_two 8 (V (n - 2)) (V (n - 1))), m, B) _
  unfold e_rc
  dsimp only
  rw [z_up_eq]
  exact rc_v r1 r2 (by omega) (by omega) (Or.inl (by omega))

set_option maxHeartbeats 1000000 in
theorem p_w10 (d : Nat) (T : ZT) (G : ZG) (s : ZG × ZG) {al : Int → Bool} {N : Int → Int} {r L : Nat} {j v n m : Int} {V B : Int → Int} (hr : 98 ≤ r) (hk : ∀ G s, z_kd (z_Y T G s) r = 20) (hl : ∀ G s, z_ln (z_Y T G s) r = L) (hL : L ≤ 300) (hj : 0 ≤ j ∧ j < L) (hc : G r j = t_enc 10 v) (hN : ∀ k, al k = true → e_b (N k)) (hs : ∀ k, al k = true → s.1 62 k = N k) (w : n = 2) (he : e_in (n, V, m, B)) (hR : e_rc (n, V, m, B) s) : ∃ s' q, z_w d_Br_worth (z_call (d + 1)) 4 [some (vr 61), some (vr r), some (vi (iI (n + m))), some (vi (iI j)), none, none, none] [] (z_Y T G s) = z_w d_Br_worth (z_call (d + 1)) 4 [some (vr 61), some (vr r), some (vi (iI q)), some (vi (iI (j + 1))), none, none, none] [] (z_Y T G s') ∧ q = e_n 10 n + e_m 10 m ∧ e_rc (e_stp N 10 v (n, V, m, B)) s' ∧ s'.1 62 = s.1 62 := by
  obtain ⟨h1, h2, h3, h4, h5⟩ := he
  obtain ⟨r1, r2⟩ := hR
  dsimp only at h1 h2 h3 h4 h5 r1 r2
  have hi := hj.2
  have ht : (n + m < 64) = True := eq_true (by omega)
  rw [e_Br_worth_4]
  have q2 := h4 (n - 2) (by omega) (by omega)
  have q3 := h4 (n - 1) (by omega) (by omega)
  have g2 : s.1 63 (n + m - 1 - 1) = V (n - 2) := by rw [← r2 (n - 2) (by omega) (by omega)]; exact f_eq (by omega)
  have g3 : s.1 63 (n + m - 1) = V (n - 1) := by rw [← r2 (n - 1) (by omega) (by omega)]; exact f_eq (by omega)
  have a2 : n + m + -1 = n + m - 1 := by omega
  have a3 : n + m - 1 - 1 = m := by omega
  have b2 : (1 < n + m) = True := eq_true (by omega)
  have hc' : G r j = 8 := hc
  have k1 : i_and 8 63 = 8 := by decide
  have k5 : decide ((18 : Int) ≤ 8 ∧ (8 : Int) ≤ 27) = false := by decide
  have pj : ∀ σ, _ = some (vl (lI (zb (e_ask 10 (V (n - 2)) (V (n - 1))))), σ) := fun σ => p_j8 d σ q2 q3
  have hb := zb_in (e_ask 10 (V (n - 2)) (V (n - 1)))
  have hwe : e_clip (zb (e_ask 10 (V (n - 2)) (V (n - 1)))) = zb (e_ask 10 (V (n - 2)) (V (n - 1))) := e_clip_in ⟨by omega, by omega⟩
  simp -implicitDefEqProofs (disch := first | assumption | omega | rfl) only [z_lit0, z_lit1, z_lit2, z_litl, iI_add, iI_sub, iI_mul, iI_neg, iI_and, iI_or, iI_xor, iI_shl, iI_shr, iI_ushr, iI_div, iI_b, iI_c, iI_i2l, lI_l2i, lI_add, lI_sub, lI_mul, lI_neg, lI_div, lI_or, lI_and, lI_shl, lI_shr, nI_iI, lg_lt0, lg_gt0, lg_eq0, i_ne0', l_ne0', iI_lt, iI_le, iI_eq, lI_lt, lI_le, lI_eq, zb_0, zb_fit, zb_fit0, zb_fit1, i_one_zero, i_w_in, z_tb0, z_tb1, z_tb2, z_tb3, z_tb4, z_tb5, z_tb6, z_tb7, z_tb8, z_tbl, z_tu0, z_tu1, z_tu2, z_i_62, z_i_63, z_i_86, z_i_88, z_l_Y, z_ui_62, z_ui_63, z_ui_86, z_ui_88, z_ul_Y, z_sz_Y, z_sw_Y, iI_nat, z_ix_t, z_at, Int.add_zero, Int.sub_zero, Int.zero_add, Int.mul_zero, ne_eq, Bool.false_eq_true, Bool.true_eq_false, reduceCtorEq, eq_self, and_true, true_and, and_false, false_and, and_self, not_true_eq_false, not_false_eq_true, decide_true, decide_false, ↓reduceIte, Int.reduceEq, Int.reduceNe, Int.reduceLT, Int.reduceLE, Int.reduceAdd, Int.reduceSub, Int.reduceMul, Int.reduceNeg, Nat.reduceAdd, Nat.reduceEqDiff, Nat.reduceBEq, ↓z_x_eq, z_g_t, z_bI_s, z_bL_s, z_bR_s, z_bV_s, Int.cast_ofNat_Int, beq_self_eq_true, Bool.and_true, Bool.true_and, Bool.and_self, Bool.or_true, Bool.true_or, Bool.false_and, Bool.and_false, Bool.false_or, Bool.or_false, Bool.not_false, Bool.not_true, if_true, if_false, ite_true, ite_false, z_up_eq, z_up_app, z_ro_eq, hk, hl, z_i_Y, hi, ht, hc', k1, p_within, k5, zb_f, e_Br_worth_113, e_Br_worth_145, e_Br_worth_227, a2, b2, g2, g3, pj, p_minl, p_maxl, e_clip_eq, hwe]
  refine ⟨_, _, rfl, (by show n + m - 1 = n - 2 + (m + 1); omega), ?_, rfl⟩
  rw [e_s10]
  show e_rc (n - 2, V, m + 1, z_ro B m (zb (e_ask 10 (V (n - 2)) (V (n - 1))))) _
  unfold e_rc
  dsimp only
  rw [z_up_eq, a3, show n - 2 = 0 by omega]
  exact rc_b r1 (Or.inr ⟨Int.le_refl _, rfl⟩)

set_option maxHeartbeats 1000000 in
theorem p_w11 (d : Nat) (T : ZT) (G : ZG) (s : ZG × ZG) {al : Int → Bool} {N : Int → Int} {r L : Nat} {j v n m : Int} {V B : Int → Int} (hr : 98 ≤ r) (hk : ∀ G s, z_kd (z_Y T G s) r = 20) (hl : ∀ G s, z_ln (z_Y T G s) r = L) (hL : L ≤ 300) (hj : 0 ≤ j ∧ j < L) (hc : G r j = t_enc 11 v) (hN : ∀ k, al k = true → e_b (N k)) (hs : ∀ k, al k = true → s.1 62 k = N k) (w : n = 2) (he : e_in (n, V, m, B)) (hR : e_rc (n, V, m, B) s) : ∃ s' q, z_w d_Br_worth (z_call (d + 1)) 4 [some (vr 61), some (vr r), some (vi (iI (n + m))), some (vi (iI j)), none, none, none] [] (z_Y T G s) = z_w d_Br_worth (z_call (d + 1)) 4 [some (vr 61), some (vr r), some (vi (iI q)), some (vi (iI (j + 1))), none, none, none] [] (z_Y T G s') ∧ q = e_n 11 n + e_m 11 m ∧ e_rc (e_stp N 11 v (n, V, m, B)) s' ∧ s'.1 62 = s.1 62 := by
  obtain ⟨h1, h2, h3, h4, h5⟩ := he
  obtain ⟨r1, r2⟩ := hR
  dsimp only at h1 h2 h3 h4 h5 r1 r2
  have hi := hj.2
  have ht : (n + m < 64) = True := eq_true (by omega)
  rw [e_Br_worth_4]
  have q2 := h4 (n - 2) (by omega) (by omega)
  have q3 := h4 (n - 1) (by omega) (by omega)
  have g2 : s.1 63 (n + m - 1 - 1) = V (n - 2) := by rw [← r2 (n - 2) (by omega) (by omega)]; exact f_eq (by omega)
  have g3 : s.1 63 (n + m - 1) = V (n - 1) := by rw [← r2 (n - 1) (by omega) (by omega)]; exact f_eq (by omega)
  have a2 : n + m + -1 = n + m - 1 := by omega
  have a3 : n + m - 1 - 1 = m := by omega
  have b2 : (1 < n + m) = True := eq_true (by omega)
  have hc' : G r j = 16 := hc
  have k1 : i_and 16 63 = 16 := by decide
  have k5 : decide ((18 : Int) ≤ 16 ∧ (16 : Int) ≤ 27) = false := by decide
  have pj : ∀ σ, _ = some (vl (lI (zb (e_ask 11 (V (n - 2)) (V (n - 1))))), σ) := fun σ => p_j16 d σ q2 q3
  have hb := zb_in (e_ask 11 (V (n - 2)) (V (n - 1)))
  have hwe : e_clip (zb (e_ask 11 (V (n - 2)) (V (n - 1)))) = zb (e_ask 11 (V (n - 2)) (V (n - 1))) := e_clip_in ⟨by omega, by omega⟩
  simp -implicitDefEqProofs (disch := first | assumption | omega | rfl) only [z_lit0, z_lit1, z_lit2, z_litl, iI_add, iI_sub, iI_mul, iI_neg, iI_and, iI_or, iI_xor, iI_shl, iI_shr, iI_ushr, iI_div, iI_b, iI_c, iI_i2l, lI_l2i, lI_add, lI_sub, lI_mul, lI_neg, lI_div, lI_or, lI_and, lI_shl, lI_shr, nI_iI, lg_lt0, lg_gt0, lg_eq0, i_ne0', l_ne0', iI_lt, iI_le, iI_eq, lI_lt, lI_le, lI_eq, zb_0, zb_fit, zb_fit0, zb_fit1, i_one_zero, i_w_in, z_tb0, z_tb1, z_tb2, z_tb3, z_tb4, z_tb5, z_tb6, z_tb7, z_tb8, z_tbl, z_tu0, z_tu1, z_tu2, z_i_62, z_i_63, z_i_86, z_i_88, z_l_Y, z_ui_62, z_ui_63, z_ui_86, z_ui_88, z_ul_Y, z_sz_Y, z_sw_Y, iI_nat, z_ix_t, z_at, Int.add_zero, Int.sub_zero, Int.zero_add, Int.mul_zero, ne_eq, Bool.false_eq_true, Bool.true_eq_false, reduceCtorEq, eq_self, and_true, true_and, and_false, false_and, and_self, not_true_eq_false, not_false_eq_true, decide_true, decide_false, ↓reduceIte, Int.reduceEq, Int.reduceNe, Int.reduceLT, Int.reduceLE, Int.reduceAdd, Int.reduceSub, Int.reduceMul, Int.reduceNeg, Nat.reduceAdd, Nat.reduceEqDiff, Nat.reduceBEq, ↓z_x_eq, z_g_t, z_bI_s, z_bL_s, z_bR_s, z_bV_s, Int.cast_ofNat_Int, beq_self_eq_true, Bool.and_true, Bool.true_and, Bool.and_self, Bool.or_true, Bool.true_or, Bool.false_and, Bool.and_false, Bool.false_or, Bool.or_false, Bool.not_false, Bool.not_true, if_true, if_false, ite_true, ite_false, z_up_eq, z_up_app, z_ro_eq, hk, hl, z_i_Y, hi, ht, hc', k1, p_within, k5, zb_f, e_Br_worth_113, e_Br_worth_145, e_Br_worth_227, a2, b2, g2, g3, pj, p_minl, p_maxl, e_clip_eq, hwe]
  refine ⟨_, _, rfl, (by show n + m - 1 = n - 2 + (m + 1); omega), ?_, rfl⟩
  rw [e_s11]
  show e_rc (n - 2, V, m + 1, z_ro B m (zb (e_ask 11 (V (n - 2)) (V (n - 1))))) _
  unfold e_rc
  dsimp only
  rw [z_up_eq, a3, show n - 2 = 0 by omega]
  exact rc_b r1 (Or.inr ⟨Int.le_refl _, rfl⟩)

set_option maxHeartbeats 1000000 in
theorem p_w12 (d : Nat) (T : ZT) (G : ZG) (s : ZG × ZG) {al : Int → Bool} {N : Int → Int} {r L : Nat} {j v n m : Int} {V B : Int → Int} (hr : 98 ≤ r) (hk : ∀ G s, z_kd (z_Y T G s) r = 20) (hl : ∀ G s, z_ln (z_Y T G s) r = L) (hL : L ≤ 300) (hj : 0 ≤ j ∧ j < L) (hc : G r j = t_enc 12 v) (hN : ∀ k, al k = true → e_b (N k)) (hs : ∀ k, al k = true → s.1 62 k = N k) (w : n = 2) (he : e_in (n, V, m, B)) (hR : e_rc (n, V, m, B) s) : ∃ s' q, z_w d_Br_worth (z_call (d + 1)) 4 [some (vr 61), some (vr r), some (vi (iI (n + m))), some (vi (iI j)), none, none, none] [] (z_Y T G s) = z_w d_Br_worth (z_call (d + 1)) 4 [some (vr 61), some (vr r), some (vi (iI q)), some (vi (iI (j + 1))), none, none, none] [] (z_Y T G s') ∧ q = e_n 12 n + e_m 12 m ∧ e_rc (e_stp N 12 v (n, V, m, B)) s' ∧ s'.1 62 = s.1 62 := by
  obtain ⟨h1, h2, h3, h4, h5⟩ := he
  obtain ⟨r1, r2⟩ := hR
  dsimp only at h1 h2 h3 h4 h5 r1 r2
  have hi := hj.2
  have ht : (n + m < 64) = True := eq_true (by omega)
  rw [e_Br_worth_4]
  have q2 := h4 (n - 2) (by omega) (by omega)
  have q3 := h4 (n - 1) (by omega) (by omega)
  have g2 : s.1 63 (n + m - 1 - 1) = V (n - 2) := by rw [← r2 (n - 2) (by omega) (by omega)]; exact f_eq (by omega)
  have g3 : s.1 63 (n + m - 1) = V (n - 1) := by rw [← r2 (n - 1) (by omega) (by omega)]; exact f_eq (by omega)
  have a2 : n + m + -1 = n + m - 1 := by omega
  have a3 : n + m - 1 - 1 = m := by omega
  have b2 : (1 < n + m) = True := eq_true (by omega)
  have hc' : G r j = 9 := hc
  have k1 : i_and 9 63 = 9 := by decide
  have k5 : decide ((18 : Int) ≤ 9 ∧ (9 : Int) ≤ 27) = false := by decide
  have pj : ∀ σ, _ = some (vl (lI (zb (e_ask 12 (V (n - 2)) (V (n - 1))))), σ) := fun σ => p_j9 d σ q2 q3
  have hb := zb_in (e_ask 12 (V (n - 2)) (V (n - 1)))
  have hwe : e_clip (zb (e_ask 12 (V (n - 2)) (V (n - 1)))) = zb (e_ask 12 (V (n - 2)) (V (n - 1))) := e_clip_in ⟨by omega, by omega⟩
  simp -implicitDefEqProofs (disch := first | assumption | omega | rfl) only [z_lit0, z_lit1, z_lit2, z_litl, iI_add, iI_sub, iI_mul, iI_neg, iI_and, iI_or, iI_xor, iI_shl, iI_shr, iI_ushr, iI_div, iI_b, iI_c, iI_i2l, lI_l2i, lI_add, lI_sub, lI_mul, lI_neg, lI_div, lI_or, lI_and, lI_shl, lI_shr, nI_iI, lg_lt0, lg_gt0, lg_eq0, i_ne0', l_ne0', iI_lt, iI_le, iI_eq, lI_lt, lI_le, lI_eq, zb_0, zb_fit, zb_fit0, zb_fit1, i_one_zero, i_w_in, z_tb0, z_tb1, z_tb2, z_tb3, z_tb4, z_tb5, z_tb6, z_tb7, z_tb8, z_tbl, z_tu0, z_tu1, z_tu2, z_i_62, z_i_63, z_i_86, z_i_88, z_l_Y, z_ui_62, z_ui_63, z_ui_86, z_ui_88, z_ul_Y, z_sz_Y, z_sw_Y, iI_nat, z_ix_t, z_at, Int.add_zero, Int.sub_zero, Int.zero_add, Int.mul_zero, ne_eq, Bool.false_eq_true, Bool.true_eq_false, reduceCtorEq, eq_self, and_true, true_and, and_false, false_and, and_self, not_true_eq_false, not_false_eq_true, decide_true, decide_false, ↓reduceIte, Int.reduceEq, Int.reduceNe, Int.reduceLT, Int.reduceLE, Int.reduceAdd, Int.reduceSub, Int.reduceMul, Int.reduceNeg, Nat.reduceAdd, Nat.reduceEqDiff, Nat.reduceBEq, ↓z_x_eq, z_g_t, z_bI_s, z_bL_s, z_bR_s, z_bV_s, Int.cast_ofNat_Int, beq_self_eq_true, Bool.and_true, Bool.true_and, Bool.and_self, Bool.or_true, Bool.true_or, Bool.false_and, Bool.and_false, Bool.false_or, Bool.or_false, Bool.not_false, Bool.not_true, if_true, if_false, ite_true, ite_false, z_up_eq, z_up_app, z_ro_eq, hk, hl, z_i_Y, hi, ht, hc', k1, p_within, k5, zb_f, e_Br_worth_113, e_Br_worth_145, e_Br_worth_227, a2, b2, g2, g3, pj, p_minl, p_maxl, e_clip_eq, hwe]
  refine ⟨_, _, rfl, (by show n + m - 1 = n - 2 + (m + 1); omega), ?_, rfl⟩
  rw [e_s12]
  show e_rc (n - 2, V, m + 1, z_ro B m (zb (e_ask 12 (V (n - 2)) (V (n - 1))))) _
  unfold e_rc
  dsimp only
  rw [z_up_eq, a3, show n - 2 = 0 by omega]
  exact rc_b r1 (Or.inr ⟨Int.le_refl _, rfl⟩)

set_option maxHeartbeats 1000000 in
theorem p_w13 (d : Nat) (T : ZT) (G : ZG) (s : ZG × ZG) {al : Int → Bool} {N : Int → Int} {r L : Nat} {j v n m : Int} {V B : Int → Int} (hr : 98 ≤ r) (hk : ∀ G s, z_kd (z_Y T G s) r = 20) (hl : ∀ G s, z_ln (z_Y T G s) r = L) (hL : L ≤ 300) (hj : 0 ≤ j ∧ j < L) (hc : G r j = t_enc 13 v) (hN : ∀ k, al k = true → e_b (N k)) (hs : ∀ k, al k = true → s.1 62 k = N k) (w : n = 2) (he : e_in (n, V, m, B)) (hR : e_rc (n, V, m, B) s) : ∃ s' q, z_w d_Br_worth (z_call (d + 1)) 4 [some (vr 61), some (vr r), some (vi (iI (n + m))), some (vi (iI j)), none, none, none] [] (z_Y T G s) = z_w d_Br_worth (z_call (d + 1)) 4 [some (vr 61), some (vr r), some (vi (iI q)), some (vi (iI (j + 1))), none, none, none] [] (z_Y T G s') ∧ q = e_n 13 n + e_m 13 m ∧ e_rc (e_stp N 13 v (n, V, m, B)) s' ∧ s'.1 62 = s.1 62 := by
  obtain ⟨h1, h2, h3, h4, h5⟩ := he
  obtain ⟨r1, r2⟩ := hR
  dsimp only at h1 h2 h3 h4 h5 r1 r2
  have hi := hj.2
  have ht : (n + m < 64) = True := eq_true (by omega)
  rw [e_Br_worth_4]
  have q2 := h4 (n - 2) (by omega) (by omega)
  have q3 := h4 (n - 1) (by omega) (by omega)
  have g2 : s.1 63 (n + m - 1 - 1) = V (n - 2) := by rw [← r2 (n - 2) (by omega) (by omega)]; exact f_eq (by omega)
  have g3 : s.1 63 (n + m - 1) = V (n - 1) := by rw [← r2 (n - 1) (by omega) (by omega)]; exact f_eq (by omega)
  have a2 : n + m + -1 = n + m - 1 := by omega
  have a3 : n + m - 1 - 1 = m := by omega
  have b2 : (1 < n + m) = True := eq_true (by omega)
  have hc' : G r j = 17 := hc
  have k1 : i_and 17 63 = 17 := by decide
  have k5 : decide ((18 : Int) ≤ 17 ∧ (17 : Int) ≤ 27) = false := by decide
  have pj : ∀ σ, _ = some (vl (lI (zb (e_ask 13 (V (n - 2)) (V (n - 1))))), σ) := fun σ => p_j17 d σ q2 q3
  have hb := zb_in (e_ask 13 (V (n - 2)) (V (n - 1)))
  have hwe : e_clip (zb (e_ask 13 (V (n - 2)) (V (n - 1)))) = zb (e_ask 13 (V (n - 2)) (V (n - 1))) := e_clip_in ⟨by omega, by omega⟩
  simp -implicitDefEqProofs (disch := first | assumption | omega | rfl) only [z_lit0, z_lit1, z_lit2, z_litl, iI_add, iI_sub, iI_mul, iI_neg, iI_and, iI_or, iI_xor, iI_shl, iI_shr, iI_ushr, iI_div, iI_b, iI_c, iI_i2l, lI_l2i, lI_add, lI_sub, lI_mul, lI_neg, lI_div, lI_or, lI_and, lI_shl, lI_shr, nI_iI, lg_lt0, lg_gt0, lg_eq0, i_ne0', l_ne0', iI_lt, iI_le, iI_eq, lI_lt, lI_le, lI_eq, zb_0, zb_fit, zb_fit0, zb_fit1, i_one_zero, i_w_in, z_tb0, z_tb1, z_tb2, z_tb3, z_tb4, z_tb5, z_tb6, z_tb7, z_tb8, z_tbl, z_tu0, z_tu1, z_tu2, z_i_62, z_i_63, z_i_86, z_i_88, z_l_Y, z_ui_62, z_ui_63, z_ui_86, z_ui_88, z_ul_Y, z_sz_Y, z_sw_Y, iI_nat, z_ix_t, z_at, Int.add_zero, Int.sub_zero, Int.zero_add, Int.mul_zero, ne_eq, Bool.false_eq_true, Bool.true_eq_false, reduceCtorEq, eq_self, and_true, true_and, and_false, false_and, and_self, not_true_eq_false, not_false_eq_true, decide_true, decide_false, ↓reduceIte, Int.reduceEq, Int.reduceNe, Int.reduceLT, Int.reduceLE, Int.reduceAdd, Int.reduceSub, Int.reduceMul, Int.reduceNeg, Nat.reduceAdd, Nat.reduceEqDiff, Nat.reduceBEq, ↓z_x_eq, z_g_t, z_bI_s, z_bL_s, z_bR_s, z_bV_s, Int.cast_ofNat_Int, beq_self_eq_true, Bool.and_true, Bool.true_and, Bool.and_self, Bool.or_true, Bool.true_or, Bool.false_and, Bool.and_false, Bool.false_or, Bool.or_false, Bool.not_false, Bool.not_true, if_true, if_false, ite_true, ite_false, z_up_eq, z_up_app, z_ro_eq, hk, hl, z_i_Y, hi, ht, hc', k1, p_within, k5, zb_f, e_Br_worth_113, e_Br_worth_145, e_Br_worth_227, a2, b2, g2, g3, pj, p_minl, p_maxl, e_clip_eq, hwe]
  refine ⟨_, _, rfl, (by show n + m - 1 = n - 2 + (m + 1); omega), ?_, rfl⟩
  rw [e_s13]
  show e_rc (n - 2, V, m + 1, z_ro B m (zb (e_ask 13 (V (n - 2)) (V (n - 1))))) _
  unfold e_rc
  dsimp only
  rw [z_up_eq, a3, show n - 2 = 0 by omega]
  exact rc_b r1 (Or.inr ⟨Int.le_refl _, rfl⟩)

set_option maxHeartbeats 1000000 in
theorem p_w14 (d : Nat) (T : ZT) (G : ZG) (s : ZG × ZG) {al : Int → Bool} {N : Int → Int} {r L : Nat} {j v n m : Int} {V B : Int → Int} (hr : 98 ≤ r) (hk : ∀ G s, z_kd (z_Y T G s) r = 20) (hl : ∀ G s, z_ln (z_Y T G s) r = L) (hL : L ≤ 300) (hj : 0 ≤ j ∧ j < L) (hc : G r j = t_enc 14 v) (hN : ∀ k, al k = true → e_b (N k)) (hs : ∀ k, al k = true → s.1 62 k = N k) (w : n = 2) (he : e_in (n, V, m, B)) (hR : e_rc (n, V, m, B) s) : ∃ s' q, z_w d_Br_worth (z_call (d + 1)) 4 [some (vr 61), some (vr r), some (vi (iI (n + m))), some (vi (iI j)), none, none, none] [] (z_Y T G s) = z_w d_Br_worth (z_call (d + 1)) 4 [some (vr 61), some (vr r), some (vi (iI q)), some (vi (iI (j + 1))), none, none, none] [] (z_Y T G s') ∧ q = e_n 14 n + e_m 14 m ∧ e_rc (e_stp N 14 v (n, V, m, B)) s' ∧ s'.1 62 = s.1 62 := by
  obtain ⟨h1, h2, h3, h4, h5⟩ := he
  obtain ⟨r1, r2⟩ := hR
  dsimp only at h1 h2 h3 h4 h5 r1 r2
  have hi := hj.2
  have ht : (n + m < 64) = True := eq_true (by omega)
  rw [e_Br_worth_4]
  have q2 := h4 (n - 2) (by omega) (by omega)
  have q3 := h4 (n - 1) (by omega) (by omega)
  have g2 : s.1 63 (n + m - 1 - 1) = V (n - 2) := by rw [← r2 (n - 2) (by omega) (by omega)]; exact f_eq (by omega)
  have g3 : s.1 63 (n + m - 1) = V (n - 1) := by rw [← r2 (n - 1) (by omega) (by omega)]; exact f_eq (by omega)
  have a2 : n + m + -1 = n + m - 1 := by omega
  have a3 : n + m - 1 - 1 = m := by omega
  have b2 : (1 < n + m) = True := eq_true (by omega)
  have hc' : G r j = 10 := hc
  have k1 : i_and 10 63 = 10 := by decide
  have k5 : decide ((18 : Int) ≤ 10 ∧ (10 : Int) ≤ 27) = false := by decide
  have pj : ∀ σ, _ = some (vl (lI (zb (e_ask 14 (V (n - 2)) (V (n - 1))))), σ) := fun σ => p_j10 d σ q2 q3
  have hb := zb_in (e_ask 14 (V (n - 2)) (V (n - 1)))
  have hwe : e_clip (zb (e_ask 14 (V (n - 2)) (V (n - 1)))) = zb (e_ask 14 (V (n - 2)) (V (n - 1))) := e_clip_in ⟨by omega, by omega⟩
  simp -implicitDefEqProofs (disch := first | assumption | omega | rfl) only [z_lit0, z_lit1, z_lit2, z_litl, iI_add, iI_sub, iI_mul, iI_neg, iI_and, iI_or, iI_xor, iI_shl, iI_shr, iI_ushr, iI_div, iI_b, iI_c, iI_i2l, lI_l2i, lI_add, lI_sub, lI_mul, lI_neg, lI_div, lI_or, lI_and, lI_shl, lI_shr, nI_iI, lg_lt0, lg_gt0, lg_eq0, i_ne0', l_ne0', iI_lt, iI_le, iI_eq, lI_lt, lI_le, lI_eq, zb_0, zb_fit, zb_fit0, zb_fit1, i_one_zero, i_w_in, z_tb0, z_tb1, z_tb2, z_tb3, z_tb4, z_tb5, z_tb6, z_tb7, z_tb8, z_tbl, z_tu0, z_tu1, z_tu2, z_i_62, z_i_63, z_i_86, z_i_88, z_l_Y, z_ui_62, z_ui_63, z_ui_86, z_ui_88, z_ul_Y, z_sz_Y, z_sw_Y, iI_nat, z_ix_t, z_at, Int.add_zero, Int.sub_zero, Int.zero_add, Int.mul_zero, ne_eq, Bool.false_eq_true, Bool.true_eq_false, reduceCtorEq, eq_self, and_true, true_and, and_false, false_and, and_self, not_true_eq_false, not_false_eq_true, decide_true, decide_false, ↓reduceIte, Int.reduceEq, Int.reduceNe, Int.reduceLT, Int.reduceLE, Int.reduceAdd, Int.reduceSub, Int.reduceMul, Int.reduceNeg, Nat.reduceAdd, Nat.reduceEqDiff, Nat.reduceBEq, ↓z_x_eq, z_g_t, z_bI_s, z_bL_s, z_bR_s, z_bV_s, Int.cast_ofNat_Int, beq_self_eq_true, Bool.and_true, Bool.true_and, Bool.and_self, Bool.or_true, Bool.true_or, Bool.false_and, Bool.and_false, Bool.false_or, Bool.or_false, Bool.not_false, Bool.not_true, if_true, if_false, ite_true, ite_false, z_up_eq, z_up_app, z_ro_eq, hk, hl, z_i_Y, hi, ht, hc', k1, p_within, k5, zb_f, e_Br_worth_113, e_Br_worth_145, e_Br_worth_227, a2, b2, g2, g3, pj, p_minl, p_maxl, e_clip_eq, hwe]
  refine ⟨_, _, rfl, (by show n + m - 1 = n - 2 + (m + 1); omega), ?_, rfl⟩
  rw [e_s14]
  show e_rc (n - 2, V, m + 1, z_ro B m (zb (e_ask 14 (V (n - 2)) (V (n - 1))))) _
  unfold e_rc
  dsimp only
  rw [z_up_eq, a3, show n - 2 = 0 by omega]
  exact rc_b r1 (Or.inr ⟨Int.le_refl _, rfl⟩)

set_option maxHeartbeats 1000000 in
theorem p_w15 (d : Nat) (T : ZT) (G : ZG) (s : ZG × ZG) {al : Int → Bool} {N : Int → Int} {r L : Nat} {j v n m : Int} {V B : Int → Int} (hr : 98 ≤ r) (hk : ∀ G s, z_kd (z_Y T G s) r = 20) (hl : ∀ G s, z_ln (z_Y T G s) r = L) (hL : L ≤ 300) (hj : 0 ≤ j ∧ j < L) (hc : G r j = t_enc 15 v) (hN : ∀ k, al k = true → e_b (N k)) (hs : ∀ k, al k = true → s.1 62 k = N k) (w : n = 2) (he : e_in (n, V, m, B)) (hR : e_rc (n, V, m, B) s) : ∃ s' q, z_w d_Br_worth (z_call (d + 1)) 4 [some (vr 61), some (vr r), some (vi (iI (n + m))), some (vi (iI j)), none, none, none] [] (z_Y T G s) = z_w d_Br_worth (z_call (d + 1)) 4 [some (vr 61), some (vr r), some (vi (iI q)), some (vi (iI (j + 1))), none, none, none] [] (z_Y T G s') ∧ q = e_n 15 n + e_m 15 m ∧ e_rc (e_stp N 15 v (n, V, m, B)) s' ∧ s'.1 62 = s.1 62 := by
  obtain ⟨h1, h2, h3, h4, h5⟩ := he
  obtain ⟨r1, r2⟩ := hR
  dsimp only at h1 h2 h3 h4 h5 r1 r2
  have hi := hj.2
  have ht : (n + m < 64) = True := eq_true (by omega)
  rw [e_Br_worth_4]
  have q2 := h4 (n - 2) (by omega) (by omega)
  have q3 := h4 (n - 1) (by omega) (by omega)
  have g2 : s.1 63 (n + m - 1 - 1) = V (n - 2) := by rw [← r2 (n - 2) (by omega) (by omega)]; exact f_eq (by omega)
  have g3 : s.1 63 (n + m - 1) = V (n - 1) := by rw [← r2 (n - 1) (by omega) (by omega)]; exact f_eq (by omega)
  have a2 : n + m + -1 = n + m - 1 := by omega
  have a3 : n + m - 1 - 1 = m := by omega
  have b2 : (1 < n + m) = True := eq_true (by omega)
  have hc' : G r j = 11 := hc
  have k1 : i_and 11 63 = 11 := by decide
  have k5 : decide ((18 : Int) ≤ 11 ∧ (11 : Int) ≤ 27) = false := by decide
  have pj : ∀ σ, _ = some (vl (lI (zb (e_ask 15 (V (n - 2)) (V (n - 1))))), σ) := fun σ => p_j11 d σ q2 q3
  have hb := zb_in (e_ask 15 (V (n - 2)) (V (n - 1)))
  have hwe : e_clip (zb (e_ask 15 (V (n - 2)) (V (n - 1)))) = zb (e_ask 15 (V (n - 2)) (V (n - 1))) := e_clip_in ⟨by omega, by omega⟩
  simp -implicitDefEqProofs (disch := first | assumption | omega | rfl) only [z_lit0, z_lit1, z_lit2, z_litl, iI_add, iI_sub, iI_mul, iI_neg, iI_and, iI_or, iI_xor, iI_shl, iI_shr, iI_ushr, iI_div, iI_b, iI_c, iI_i2l, lI_l2i, lI_add, lI_sub, lI_mul, lI_neg, lI_div, lI_or, lI_and, lI_shl, lI_shr, nI_iI, lg_lt0, lg_gt0, lg_eq0, i_ne0', l_ne0', iI_lt, iI_le, iI_eq, lI_lt, lI_le, lI_eq, zb_0, zb_fit, zb_fit0, zb_fit1, i_one_zero, i_w_in, z_tb0, z_tb1, z_tb2, z_tb3, z_tb4, z_tb5, z_tb6, z_tb7, z_tb8, z_tbl, z_tu0, z_tu1, z_tu2, z_i_62, z_i_63, z_i_86, z_i_88, z_l_Y, z_ui_62, z_ui_63, z_ui_86, z_ui_88, z_ul_Y, z_sz_Y, z_sw_Y, iI_nat, z_ix_t, z_at, Int.add_zero, Int.sub_zero, Int.zero_add, Int.mul_zero, ne_eq, Bool.false_eq_true, Bool.true_eq_false, reduceCtorEq, eq_self, and_true, true_and, and_false, false_and, and_self, not_true_eq_false, not_false_eq_true, decide_true, decide_false, ↓reduceIte, Int.reduceEq, Int.reduceNe, Int.reduceLT, Int.reduceLE, Int.reduceAdd, Int.reduceSub, Int.reduceMul, Int.reduceNeg, Nat.reduceAdd, Nat.reduceEqDiff, Nat.reduceBEq, ↓z_x_eq, z_g_t, z_bI_s, z_bL_s, z_bR_s, z_bV_s, Int.cast_ofNat_Int, beq_self_eq_true, Bool.and_true, Bool.true_and, Bool.and_self, Bool.or_true, Bool.true_or, Bool.false_and, Bool.and_false, Bool.false_or, Bool.or_false, Bool.not_false, Bool.not_true, if_true, if_false, ite_true, ite_false, z_up_eq, z_up_app, z_ro_eq, hk, hl, z_i_Y, hi, ht, hc', k1, p_within, k5, zb_f, e_Br_worth_113, e_Br_worth_145, e_Br_worth_227, a2, b2, g2, g3, pj, p_minl, p_maxl, e_clip_eq, hwe]
  refine ⟨_, _, rfl, (by show n + m - 1 = n - 2 + (m + 1); omega), ?_, rfl⟩
  rw [e_s15]
  show e_rc (n - 2, V, m + 1, z_ro B m (zb (e_ask 15 (V (n - 2)) (V (n - 1))))) _
  unfold e_rc
  dsimp only
  rw [z_up_eq, a3, show n - 2 = 0 by omega]
  exact rc_b r1 (Or.inr ⟨Int.le_refl _, rfl⟩)

set_option maxHeartbeats 1000000 in
theorem p_w20 (d : Nat) (T : ZT) (G : ZG) (s : ZG × ZG) {al : Int → Bool} {N : Int → Int} {r L : Nat} {j v n m : Int} {V B : Int → Int} (hr : 98 ≤ r) (hk : ∀ G s, z_kd (z_Y T G s) r = 20) (hl : ∀ G s, z_ln (z_Y T G s) r = L) (hL : L ≤ 300) (hj : 0 ≤ j ∧ j < L) (hc : G r j = t_enc 20 v) (hN : ∀ k, al k = true → e_b (N k)) (hs : ∀ k, al k = true → s.1 62 k = N k) (w : n = 0) (w2 : 1 ≤ m) (he : e_in (n, V, m, B)) (hR : e_rc (n, V, m, B) s) : ∃ s' q, z_w d_Br_worth (z_call (d + 1)) 4 [some (vr 61), some (vr r), some (vi (iI (n + m))), some (vi (iI j)), none, none, none] [] (z_Y T G s) = z_w d_Br_worth (z_call (d + 1)) 4 [some (vr 61), some (vr r), some (vi (iI q)), some (vi (iI (j + 1))), none, none, none] [] (z_Y T G s') ∧ q = e_n 20 n + e_m 20 m ∧ e_rc (e_stp N 20 v (n, V, m, B)) s' ∧ s'.1 62 = s.1 62 := by
  obtain ⟨h1, h2, h3, h4, h5⟩ := he
  obtain ⟨r1, r2⟩ := hR
  dsimp only at h1 h2 h3 h4 h5 r1 r2
  have hi := hj.2
  have ht : (n + m < 64) = True := eq_true (by omega)
  rw [e_Br_worth_4]
  have hc' : G r j = 43 := hc
  have k1 : i_and 43 63 = 43 := by decide
  have k5 : decide ((18 : Int) ≤ 43 ∧ (43 : Int) ≤ 27) = false := by decide
  have g3 : s.1 63 (m - 1) = B (m - 1) := r1 (m - 1) (by omega) (by omega)
  have a1 : n + m = m := by omega
  have b2 : (0 < m) = True := eq_true (by omega)
  rw [a1] at ht
  rw [a1]
  simp -implicitDefEqProofs (disch := first | assumption | omega | rfl) only [z_lit0, z_lit1, z_lit2, z_litl, iI_add, iI_sub, iI_mul, iI_neg, iI_and, iI_or, iI_xor, iI_shl, iI_shr, iI_ushr, iI_div, iI_b, iI_c, iI_i2l, lI_l2i, lI_add, lI_sub, lI_mul, lI_neg, lI_div, lI_or, lI_and, lI_shl, lI_shr, nI_iI, lg_lt0, lg_gt0, lg_eq0, i_ne0', l_ne0', iI_lt, iI_le, iI_eq, lI_lt, lI_le, lI_eq, zb_0, zb_fit, zb_fit0, zb_fit1, i_one_zero, i_w_in, z_tb0, z_tb1, z_tb2, z_tb3, z_tb4, z_tb5, z_tb6, z_tb7, z_tb8, z_tbl, z_tu0, z_tu1, z_tu2, z_i_62, z_i_63, z_i_86, z_i_88, z_l_Y, z_ui_62, z_ui_63, z_ui_86, z_ui_88, z_ul_Y, z_sz_Y, z_sw_Y, iI_nat, z_ix_t, z_at, Int.add_zero, Int.sub_zero, Int.zero_add, Int.mul_zero, ne_eq, Bool.false_eq_true, Bool.true_eq_false, reduceCtorEq, eq_self, and_true, true_and, and_false, false_and, and_self, not_true_eq_false, not_false_eq_true, decide_true, decide_false, ↓reduceIte, Int.reduceEq, Int.reduceNe, Int.reduceLT, Int.reduceLE, Int.reduceAdd, Int.reduceSub, Int.reduceMul, Int.reduceNeg, Nat.reduceAdd, Nat.reduceEqDiff, Nat.reduceBEq, ↓z_x_eq, z_g_t, z_bI_s, z_bL_s, z_bR_s, z_bV_s, Int.cast_ofNat_Int, beq_self_eq_true, Bool.and_true, Bool.true_and, Bool.and_self, Bool.or_true, Bool.true_or, Bool.false_and, Bool.and_false, Bool.false_or, Bool.or_false, Bool.not_false, Bool.not_true, if_true, if_false, ite_true, ite_false, z_up_eq, z_up_app, z_ro_eq, hk, hl, z_i_Y, hi, ht, hc', k1, p_within, k5, zb_f, e_Br_worth_113, b2, g3]
  refine ⟨_, _, rfl, (by show m = n + m; omega), ?_, rfl⟩
  rw [e_s20]
  show e_rc (n, V, m, z_ro B (m - 1) (1 - B (m - 1))) _
  unfold e_rc
  dsimp only
  rw [z_up_eq, show n = 0 by omega]
  exact rc_b r1 (Or.inl (by omega))

set_option maxHeartbeats 1000000 in
theorem p_w21 (d : Nat) (T : ZT) (G : ZG) (s : ZG × ZG) {al : Int → Bool} {N : Int → Int} {r L : Nat} {j v n m : Int} {V B : Int → Int} (hr : 98 ≤ r) (hk : ∀ G s, z_kd (z_Y T G s) r = 20) (hl : ∀ G s, z_ln (z_Y T G s) r = L) (hL : L ≤ 300) (hj : 0 ≤ j ∧ j < L) (hc : G r j = t_enc 21 v) (hN : ∀ k, al k = true → e_b (N k)) (hs : ∀ k, al k = true → s.1 62 k = N k) (w : n = 0) (w2 : 2 ≤ m) (he : e_in (n, V, m, B)) (hR : e_rc (n, V, m, B) s) : ∃ s' q, z_w d_Br_worth (z_call (d + 1)) 4 [some (vr 61), some (vr r), some (vi (iI (n + m))), some (vi (iI j)), none, none, none] [] (z_Y T G s) = z_w d_Br_worth (z_call (d + 1)) 4 [some (vr 61), some (vr r), some (vi (iI q)), some (vi (iI (j + 1))), none, none, none] [] (z_Y T G s') ∧ q = e_n 21 n + e_m 21 m ∧ e_rc (e_stp N 21 v (n, V, m, B)) s' ∧ s'.1 62 = s.1 62 := by
  obtain ⟨h1, h2, h3, h4, h5⟩ := he
  obtain ⟨r1, r2⟩ := hR
  dsimp only at h1 h2 h3 h4 h5 r1 r2
  have hi := hj.2
  have ht : (n + m < 64) = True := eq_true (by omega)
  rw [e_Br_worth_4]
  have g2 : s.1 63 (m - 1 - 1) = B (m - 2) := by rw [← r1 (m - 2) (by omega) (by omega)]; exact f_eq (by omega)
  have g3 : s.1 63 (m - 1) = B (m - 1) := r1 (m - 1) (by omega) (by omega)
  have q2 := h5 (m - 2) (by omega) (by omega)
  have q3 := h5 (m - 1) (by omega) (by omega)
  have a0 : n + m = m := by omega
  have a2 : m + -1 = m - 1 := by omega
  have a3 : m - 1 - 1 = m - 2 := by omega
  have b2 : (1 < m) = True := eq_true (by omega)
  rw [a0] at ht
  rw [a0]
  have hc' : G r j = 42 := hc
  have k1 : i_and 42 63 = 42 := by decide
  have k5 : decide ((18 : Int) ≤ 42 ∧ (42 : Int) ≤ 27) = false := by decide
  have pj := fun σ => p_j42 d σ q2 q3
  have hb := e_and01 q2 q3
  have hwe : e_clip (i_and (B (m - 2)) (B (m - 1))) = i_and (B (m - 2)) (B (m - 1)) := e_clip_in ⟨by omega, by omega⟩
  simp -implicitDefEqProofs (disch := first | assumption | omega | rfl) only [z_lit0, z_lit1, z_lit2, z_litl, iI_add, iI_sub, iI_mul, iI_neg, iI_and, iI_or, iI_xor, iI_shl, iI_shr, iI_ushr, iI_div, iI_b, iI_c, iI_i2l, lI_l2i, lI_add, lI_sub, lI_mul, lI_neg, lI_div, lI_or, lI_and, lI_shl, lI_shr, nI_iI, lg_lt0, lg_gt0, lg_eq0, i_ne0', l_ne0', iI_lt, iI_le, iI_eq, lI_lt, lI_le, lI_eq, zb_0, zb_fit, zb_fit0, zb_fit1, i_one_zero, i_w_in, z_tb0, z_tb1, z_tb2, z_tb3, z_tb4, z_tb5, z_tb6, z_tb7, z_tb8, z_tbl, z_tu0, z_tu1, z_tu2, z_i_62, z_i_63, z_i_86, z_i_88, z_l_Y, z_ui_62, z_ui_63, z_ui_86, z_ui_88, z_ul_Y, z_sz_Y, z_sw_Y, iI_nat, z_ix_t, z_at, Int.add_zero, Int.sub_zero, Int.zero_add, Int.mul_zero, ne_eq, Bool.false_eq_true, Bool.true_eq_false, reduceCtorEq, eq_self, and_true, true_and, and_false, false_and, and_self, not_true_eq_false, not_false_eq_true, decide_true, decide_false, ↓reduceIte, Int.reduceEq, Int.reduceNe, Int.reduceLT, Int.reduceLE, Int.reduceAdd, Int.reduceSub, Int.reduceMul, Int.reduceNeg, Nat.reduceAdd, Nat.reduceEqDiff, Nat.reduceBEq, ↓z_x_eq, z_g_t, z_bI_s, z_bL_s, z_bR_s, z_bV_s, Int.cast_ofNat_Int, beq_self_eq_true, Bool.and_true, Bool.true_and, Bool.and_self, Bool.or_true, Bool.true_or, Bool.false_and, Bool.and_false, Bool.false_or, Bool.or_false, Bool.not_false, Bool.not_true, if_true, if_false, ite_true, ite_false, z_up_eq, z_up_app, z_ro_eq, hk, hl, z_i_Y, hi, ht, hc', k1, p_within, k5, zb_f, e_Br_worth_113, e_Br_worth_145, e_Br_worth_227, a2, b2, g2, g3, pj, p_minl, p_maxl, e_clip_eq, hwe]
  refine ⟨_, _, rfl, (by show m - 1 = n + (m - 1); omega), ?_, rfl⟩
  rw [e_s21]
  show e_rc (n, V, m - 1, z_ro B (m - 2) (i_and (B (m - 2)) (B (m - 1)))) _
  unfold e_rc
  dsimp only
  rw [z_up_eq, a3, show n = 0 by omega]
  exact rc_b r1 (Or.inl (by omega))

set_option maxHeartbeats 1000000 in
theorem p_w22 (d : Nat) (T : ZT) (G : ZG) (s : ZG × ZG) {al : Int → Bool} {N : Int → Int} {r L : Nat} {j v n m : Int} {V B : Int → Int} (hr : 98 ≤ r) (hk : ∀ G s, z_kd (z_Y T G s) r = 20) (hl : ∀ G s, z_ln (z_Y T G s) r = L) (hL : L ≤ 300) (hj : 0 ≤ j ∧ j < L) (hc : G r j = t_enc 22 v) (hN : ∀ k, al k = true → e_b (N k)) (hs : ∀ k, al k = true → s.1 62 k = N k) (w : n = 0) (w2 : 2 ≤ m) (he : e_in (n, V, m, B)) (hR : e_rc (n, V, m, B) s) : ∃ s' q, z_w d_Br_worth (z_call (d + 1)) 4 [some (vr 61), some (vr r), some (vi (iI (n + m))), some (vi (iI j)), none, none, none] [] (z_Y T G s) = z_w d_Br_worth (z_call (d + 1)) 4 [some (vr 61), some (vr r), some (vi (iI q)), some (vi (iI (j + 1))), none, none, none] [] (z_Y T G s') ∧ q = e_n 22 n + e_m 22 m ∧ e_rc (e_stp N 22 v (n, V, m, B)) s' ∧ s'.1 62 = s.1 62 := by
  obtain ⟨h1, h2, h3, h4, h5⟩ := he
  obtain ⟨r1, r2⟩ := hR
  dsimp only at h1 h2 h3 h4 h5 r1 r2
  have hi := hj.2
  have ht : (n + m < 64) = True := eq_true (by omega)
  rw [e_Br_worth_4]
  have g2 : s.1 63 (m - 1 - 1) = B (m - 2) := by rw [← r1 (m - 2) (by omega) (by omega)]; exact f_eq (by omega)
  have g3 : s.1 63 (m - 1) = B (m - 1) := r1 (m - 1) (by omega) (by omega)
  have q2 := h5 (m - 2) (by omega) (by omega)
  have q3 := h5 (m - 1) (by omega) (by omega)
  have a0 : n + m = m := by omega
  have a2 : m + -1 = m - 1 := by omega
  have a3 : m - 1 - 1 = m - 2 := by omega
  have b2 : (1 < m) = True := eq_true (by omega)
  rw [a0] at ht
  rw [a0]
  have hc' : G r j = 41 := hc
  have k1 : i_and 41 63 = 41 := by decide
  have k5 : decide ((18 : Int) ≤ 41 ∧ (41 : Int) ≤ 27) = false := by decide
  have pj := fun σ => p_j41 d σ q2 q3
  have hb := e_or01 q2 q3
  have hwe : e_clip (i_or (B (m - 2)) (B (m - 1))) = i_or (B (m - 2)) (B (m - 1)) := e_clip_in ⟨by omega, by omega⟩
  simp -implicitDefEqProofs (disch := first | assumption | omega | rfl) only [z_lit0, z_lit1, z_lit2, z_litl, iI_add, iI_sub, iI_mul, iI_neg, iI_and, iI_or, iI_xor, iI_shl, iI_shr, iI_ushr, iI_div, iI_b, iI_c, iI_i2l, lI_l2i, lI_add, lI_sub, lI_mul, lI_neg, lI_div, lI_or, lI_and, lI_shl, lI_shr, nI_iI, lg_lt0, lg_gt0, lg_eq0, i_ne0', l_ne0', iI_lt, iI_le, iI_eq, lI_lt, lI_le, lI_eq, zb_0, zb_fit, zb_fit0, zb_fit1, i_one_zero, i_w_in, z_tb0, z_tb1, z_tb2, z_tb3, z_tb4, z_tb5, z_tb6, z_tb7, z_tb8, z_tbl, z_tu0, z_tu1, z_tu2, z_i_62, z_i_63, z_i_86, z_i_88, z_l_Y, z_ui_62, z_ui_63, z_ui_86, z_ui_88, z_ul_Y, z_sz_Y, z_sw_Y, iI_nat, z_ix_t, z_at, Int.add_zero, Int.sub_zero, Int.zero_add, Int.mul_zero, ne_eq, Bool.false_eq_true, Bool.true_eq_false, reduceCtorEq, eq_self, and_true, true_and, and_false, false_and, and_self, not_true_eq_false, not_false_eq_true, decide_true, decide_false, ↓reduceIte, Int.reduceEq, Int.reduceNe, Int.reduceLT, Int.reduceLE, Int.reduceAdd, Int.reduceSub, Int.reduceMul, Int.reduceNeg, Nat.reduceAdd, Nat.reduceEqDiff, Nat.reduceBEq, ↓z_x_eq, z_g_t, z_bI_s, z_bL_s, z_bR_s, z_bV_s, Int.cast_ofNat_Int, beq_self_eq_true, Bool.and_true, Bool.true_and, Bool.and_self, Bool.or_true, Bool.true_or, Bool.false_and, Bool.and_false, Bool.false_or, Bool.or_false, Bool.not_false, Bool.not_true, if_true, if_false, ite_true, ite_false, z_up_eq, z_up_app, z_ro_eq, hk, hl, z_i_Y, hi, ht, hc', k1, p_within, k5, zb_f, e_Br_worth_113, e_Br_worth_145, e_Br_worth_227, a2, b2, g2, g3, pj, p_minl, p_maxl, e_clip_eq, hwe]
  refine ⟨_, _, rfl, (by show m - 1 = n + (m - 1); omega), ?_, rfl⟩
  rw [e_s22]
  show e_rc (n, V, m - 1, z_ro B (m - 2) (i_or (B (m - 2)) (B (m - 1)))) _
  unfold e_rc
  dsimp only
  rw [z_up_eq, a3, show n = 0 by omega]
  exact rc_b r1 (Or.inl (by omega))

theorem p_worth_1 (d : Nat) (T : ZT) (G : ZG) (s : ZG × ZG) {al : Int → Bool} {N : Int → Int} {r L : Nat} {j o v n m : Int} {V B : Int → Int} (hr : 98 ≤ r) (hk : ∀ G s, z_kd (z_Y T G s) r = 20) (hl : ∀ G s, z_ln (z_Y T G s) r = L) (hL : L ≤ 300) (hj : 0 ≤ j ∧ j < L) (hc : G r j = t_enc o v) (hN : ∀ k, al k = true → e_b (N k)) (hs : ∀ k, al k = true → s.1 62 k = N k) (hw : e_wo al o v n m) (he : e_in (n, V, m, B)) (hR : e_rc (n, V, m, B) s) : ∃ s' q, z_w d_Br_worth (z_call (d + 1)) 4 [some (vr 61), some (vr r), some (vi (iI (n + m))), some (vi (iI j)), none, none, none] [] (z_Y T G s) = z_w d_Br_worth (z_call (d + 1)) 4 [some (vr 61), some (vr r), some (vi (iI q)), some (vi (iI (j + 1))), none, none, none] [] (z_Y T G s') ∧ q = e_n o n + e_m o m ∧ e_rc (e_stp N o v (n, V, m, B)) s' ∧ s'.1 62 = s.1 62 := by
  rcases hw with ⟨rfl, w1, w2, w3⟩ | ⟨rfl, w1, w2, w3, w4⟩ | ⟨rfl, w⟩ | ⟨rfl, w⟩ | ⟨ho, w⟩ | ⟨ho, w⟩ | ⟨rfl, w, w2⟩ | ⟨ho, w, w2⟩
  · exact p_w0 d T G s hr hk hl hL hj hc hN hs w1 w2 w3 he hR
  · exact p_w1 d T G s hr hk hl hL hj hc hN hs w1 w2 w3 w4 he hR
  · exact p_w2 d T G s hr hk hl hL hj hc hN hs w he hR
  · exact p_w3 d T G s hr hk hl hL hj hc hN hs w he hR
  · rcases ho with rfl | rfl | rfl | rfl | rfl
    · exact p_w4 d T G s hr hk hl hL hj hc hN hs w he hR
    · exact p_w5 d T G s hr hk hl hL hj hc hN hs w he hR
    · exact p_w6 d T G s hr hk hl hL hj hc hN hs w he hR
    · exact p_w7 d T G s hr hk hl hL hj hc hN hs w he hR
    · exact p_w8 d T G s hr hk hl hL hj hc hN hs w he hR
  · rcases ho with rfl | rfl | rfl | rfl | rfl | rfl
    · exact p_w10 d T G s hr hk hl hL hj hc hN hs w he hR
    · exact p_w11 d T G s hr hk hl hL hj hc hN hs w he hR
    · exact p_w12 d T G s hr hk hl hL hj hc hN hs w he hR
    · exact p_w13 d T G s hr hk hl hL hj hc hN hs w he hR
    · exact p_w14 d T G s hr hk hl hL hj hc hN hs w he hR
    · exact p_w15 d T G s hr hk hl hL hj hc hN hs w he hR
  · exact p_w20 d T G s hr hk hl hL hj hc hN hs w w2 he hR
  · rcases ho with rfl | rfl
    · exact p_w21 d T G s hr hk hl hL hj hc hN hs w w2 he hR
    · exact p_w22 d T G s hr hk hl hL hj hc hN hs w w2 he hR
theorem p_worth_l (d : Nat) (T : ZT) (G : ZG) {al : Int → Bool} {N : Int → Int} {r L : Nat} {c f nf mf : Int} (hr : 98 ≤ r) (hk : ∀ G s, z_kd (z_Y T G s) r = 20) (hl : ∀ G s, z_ln (z_Y T G s) r = L) (hL : L ≤ 300) (hc : ∀ i : Int, 0 ≤ i → i < L → G r i = t_enc (G 83 (c + 2 * (f + i))) (G 83 (c + 2 * (f + i) + 1))) (hN : ∀ k, al k = true → e_b (N k)) (hfm : nf + mf = 1) : ∀ (k : Nat) (j : Int) (e : ZE) (s : ZG × ZG), 0 ≤ j → j + k = L → (∀ k, al k = true → s.1 62 k = N k) → e_wf al (G 83) c nf mf k (f + j) e.1 e.2.2.1 → e_in e → e_rc e s → z_ok (z_w d_Br_worth (z_call (d + 1)) 4 [some (vr 61), some (vr r), some (vi (iI (e.1 + e.2.2.1))), some (vi (iI j)), none, none, none] [] (z_Y T G s)) (z_q T G (vi (iI (if nf = 1 then (e_run N (G 83) c k (f + j) e).2.1 0 else (e_run N (G 83) c k (f + j) e).2.2.2 0))))
  | 0, j, (n, V, m, B), s, h0, h, hs, hw, he, hR => by
    rw [e_Br_worth_4]
    have hf : (j < L) = False := eq_false (by omega)
    obtain ⟨w1, w2⟩ := hw
    dsimp only at w1 w2
    obtain ⟨h1, h2, h3, h4, h5⟩ := he
    obtain ⟨r1, r2⟩ := hR
    dsimp only at h1 h2 h3 h4 h5 r1 r2
    have a0 : n + m = 1 := by omega
    have a1 : (1 : Int) - 1 = 0 := rfl
    dsimp only
    rw [a0]
    simp -implicitDefEqProofs (disch := first | assumption | omega | rfl) only [z_lit0, z_lit1, z_lit2, z_litl, iI_add, iI_sub, iI_mul, iI_neg, iI_and, iI_or, iI_xor, iI_shl, iI_shr, iI_ushr, iI_div, iI_b, iI_c, iI_i2l, lI_l2i, lI_add, lI_sub, lI_mul, lI_neg, lI_div, lI_or, lI_and, lI_shl, lI_shr, nI_iI, lg_lt0, lg_gt0, lg_eq0, i_ne0', l_ne0', iI_lt, iI_le, iI_eq, lI_lt, lI_le, lI_eq, zb_0, zb_fit, zb_fit0, zb_fit1, i_one_zero, i_w_in, z_tb0, z_tb1, z_tb2, z_tb3, z_tb4, z_tb5, z_tb6, z_tb7, z_tb8, z_tbl, z_tu0, z_tu1, z_tu2, z_i_62, z_i_63, z_i_86, z_i_88, z_l_Y, z_ui_62, z_ui_63, z_ui_86, z_ui_88, z_ul_Y, z_sz_Y, z_sw_Y, iI_nat, z_ix_t, z_at, Int.add_zero, Int.sub_zero, Int.zero_add, Int.mul_zero, ne_eq, Bool.false_eq_true, Bool.true_eq_false, reduceCtorEq, eq_self, and_true, true_and, and_false, false_and, and_self, not_true_eq_false, not_false_eq_true, decide_true, decide_false, ↓reduceIte, Int.reduceEq, Int.reduceNe, Int.reduceLT, Int.reduceLE, Int.reduceAdd, Int.reduceSub, Int.reduceMul, Int.reduceNeg, Nat.reduceAdd, Nat.reduceEqDiff, Nat.reduceBEq, ↓z_x_eq, z_g_t, z_bI_s, z_bL_s, z_bR_s, z_bV_s, Int.cast_ofNat_Int, beq_self_eq_true, Bool.and_true, Bool.true_and, Bool.and_self, Bool.or_true, Bool.true_or, Bool.false_and, Bool.and_false, Bool.false_or, Bool.or_false, Bool.not_false, Bool.not_true, if_true, if_false, ite_true, ite_false, z_up_eq, z_up_app, z_ro_eq, hk, hl, z_i_Y, hf]
    refine ok_call ok_q (congrArg (fun z => vi (iI z)) ?_) rfl
    show s.1 63 0 = if nf = 1 then V 0 else B 0
    split
    · rw [← r2 0 (by omega) (by omega)]; exact f_eq (by omega)
    · rw [← r1 0 (by omega) (by omega)]
  | k + 1, j, (n, V, m, B), s, h0, h, hs, hw, he, hR => by
    obtain ⟨w1, w2⟩ := hw
    obtain ⟨s', q, e1, hq, r', k'⟩ := p_worth_1 d T G s hr hk hl hL ⟨h0, by omega⟩ (hc j h0 (by omega)) hN hs w1 he hR
    obtain ⟨i1, i2, i3⟩ := e_stp_in (N := N) hN w1 he
    show z_ok (z_w d_Br_worth (z_call (d + 1)) 4 [some (vr 61), some (vr r), some (vi (iI (n + m))), some (vi (iI j)), none, none, none] [] (z_Y T G s)) _
    rw [e1]
    have ih := p_worth_l d T G hr hk hl hL hc hN hfm k (j + 1) (e_stp N (G 83 (c + 2 * (f + j))) (G 83 (c + 2 * (f + j) + 1)) (n, V, m, B)) s' (by omega) (by omega) (fun k q => by rw [k']; exact hs k q) (by rw [i2, i3, ← Int.add_assoc]; exact w2) i1 r'
    rw [i2, i3, ← hq, ← Int.add_assoc] at ih
    exact ih

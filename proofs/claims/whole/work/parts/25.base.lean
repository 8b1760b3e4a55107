/-! THE PURE PART, 5: the small methods of both sides -/
theorem p_get (d : Nat) (T : ZT) (G : ZG) (s : ZG × ZG) {p w : Int} (h : 0 ≤ 32 + 5 * p + w ∧ 32 + 5 * p + w < 2136) : z_call (d + 1) 126 [vr 80, vi (iI p), vi (iI w)] (z_Y T G s) = some (vi (iI (G 81 (32 + 5 * p + w))), z_Y T G s) := by
  rw [e_M_get]
  simp (disch := first | omega | rfl | assumption) only [z_lit0, z_lit1, z_lit2, z_litl, iI_add, iI_sub, iI_mul, iI_neg, iI_and, iI_or, iI_xor, iI_shl, iI_shr, iI_ushr, iI_div, iI_b, iI_c, iI_i2l, lI_l2i, lI_add, lI_sub, lI_mul, lI_neg, lI_div, lI_or, lI_and, lI_shl, lI_shr, nI_iI, lg_lt0, lg_gt0, lg_eq0, i_ne0', l_ne0', iI_lt, iI_le, iI_eq, lI_lt, lI_le, lI_eq, zb_0, zb_fit, zb_fit0, zb_fit1, i_one_zero, i_w_in, z_tb0, z_tb1, z_tb2, z_tb3, z_tb4, z_tb5, z_tb6, z_i_Y, z_i_62, z_i_63, z_i_86, z_i_88, z_l_Y, z_ui_Y, z_ui_62, z_ui_63, z_ui_86, z_ui_88, z_ul_Y, z_sz_Y, z_sw_Y, iI_nat, z_ix_t, z_at, z_x_eq, z_g_t, z_bI_s, z_bL_s, z_bR_s, z_bV_s, Int.cast_ofNat_Int, Nat.ble_eq_true_of_le, beq_self_eq_true, Bool.and_true, Bool.true_and, Bool.and_self, Bool.or_true, Bool.true_or, Bool.not_false, Bool.not_true, if_true, if_false, ite_true, ite_false, z_up_eq, z_up_ne, z_ro_eq]
theorem p_set (d : Nat) (T : ZT) (G : ZG) (s : ZG × ZG) {p w v : Int} (h : 0 ≤ 32 + 5 * p + w ∧ 32 + 5 * p + w < 2136) : z_call (d + 1) 23 [vr 80, vi (iI p), vi (iI w), vi (iI v)] (z_Y T G s) = some (vi 0, z_Y T (z_up G 81 (z_ro (G 81) (32 + 5 * p + w) v)) s) := by
  rw [e_M_set]
  simp (disch := first | omega | rfl | assumption) only [z_lit0, z_lit1, z_lit2, z_litl, iI_add, iI_sub, iI_mul, iI_neg, iI_and, iI_or, iI_xor, iI_shl, iI_shr, iI_ushr, iI_div, iI_b, iI_c, iI_i2l, lI_l2i, lI_add, lI_sub, lI_mul, lI_neg, lI_div, lI_or, lI_and, lI_shl, lI_shr, nI_iI, lg_lt0, lg_gt0, lg_eq0, i_ne0', l_ne0', iI_lt, iI_le, iI_eq, lI_lt, lI_le, lI_eq, zb_0, zb_fit, zb_fit0, zb_fit1, i_one_zero, i_w_in, z_tb0, z_tb1, z_tb2, z_tb3, z_tb4, z_tb5, z_tb6, z_i_Y, z_i_62, z_i_63, z_i_86, z_i_88, z_l_Y, z_ui_Y, z_ui_62, z_ui_63, z_ui_86, z_ui_88, z_ul_Y, z_sz_Y, z_sw_Y, iI_nat, z_ix_t, z_at, z_x_eq, z_g_t, z_bI_s, z_bL_s, z_bR_s, z_bV_s, Int.cast_ofNat_Int, Nat.ble_eq_true_of_le, beq_self_eq_true, Bool.and_true, Bool.true_and, Bool.and_self, Bool.or_true, Bool.true_or, Bool.not_false, Bool.not_true, if_true, if_false, ite_true, ite_false, z_up_eq, z_up_ne, z_ro_eq]
theorem p_seatOf (d : Nat) (T : ZT) (G : ZG) (s : ZG × ZG) {p w : Int} (h : 0 ≤ 12 + 2 * p + w ∧ 12 + 2 * p + w < 2136) : z_call (d + 1) 159 [vr 80, vi (iI p), vi (iI w)] (z_Y T G s) = some (vi (iI (G 81 (12 + 2 * p + w))), z_Y T G s) := by
  rw [e_M_seatOf]
  simp (disch := first | omega | rfl | assumption) only [z_lit0, z_lit1, z_lit2, z_litl, iI_add, iI_sub, iI_mul, iI_neg, iI_and, iI_or, iI_xor, iI_shl, iI_shr, iI_ushr, iI_div, iI_b, iI_c, iI_i2l, lI_l2i, lI_add, lI_sub, lI_mul, lI_neg, lI_div, lI_or, lI_and, lI_shl, lI_shr, nI_iI, lg_lt0, lg_gt0, lg_eq0, i_ne0', l_ne0', iI_lt, iI_le, iI_eq, lI_lt, lI_le, lI_eq, zb_0, zb_fit, zb_fit0, zb_fit1, i_one_zero, i_w_in, z_tb0, z_tb1, z_tb2, z_tb3, z_tb4, z_tb5, z_tb6, z_i_Y, z_i_62, z_i_63, z_i_86, z_i_88, z_l_Y, z_ui_Y, z_ui_62, z_ui_63, z_ui_86, z_ui_88, z_ul_Y, z_sz_Y, z_sw_Y, iI_nat, z_ix_t, z_at, z_x_eq, z_g_t, z_bI_s, z_bL_s, z_bR_s, z_bV_s, Int.cast_ofNat_Int, Nat.ble_eq_true_of_le, beq_self_eq_true, Bool.and_true, Bool.true_and, Bool.and_self, Bool.or_true, Bool.true_or, Bool.not_false, Bool.not_true, if_true, if_false, ite_true, ite_false, z_up_eq, z_up_ne, z_ro_eq]
theorem p_isSeat (d : Nat) (T : ZT) (G : ZG) (s : ZG × ZG) {x : Int} (h : i_in x ∧ 0 ≤ G 81 0 ∧ G 81 0 ≤ 10) : z_call (d + 2) 127 [vr 80, vi (iI x)] (z_Y T G s) = some (vi (iI (zb (decide (0 ≤ x ∧ x ≤ G 81 0 - 1)))), z_Y T G s) := by
  rw [e_M_isSeat]
  simp (disch := first | omega | rfl | assumption) only [z_lit0, z_lit1, z_lit2, z_litl, iI_add, iI_sub, iI_mul, iI_neg, iI_and, iI_or, iI_xor, iI_shl, iI_shr, iI_ushr, iI_div, iI_b, iI_c, iI_i2l, lI_l2i, lI_add, lI_sub, lI_mul, lI_neg, lI_div, lI_or, lI_and, lI_shl, lI_shr, nI_iI, lg_lt0, lg_gt0, lg_eq0, i_ne0', l_ne0', iI_lt, iI_le, iI_eq, lI_lt, lI_le, lI_eq, zb_0, zb_fit, zb_fit0, zb_fit1, i_one_zero, i_w_in, z_tb0, z_tb1, z_tb2, z_tb3, z_tb4, z_tb5, z_tb6, z_i_Y, z_i_62, z_i_63, z_i_86, z_i_88, z_l_Y, z_ui_Y, z_ui_62, z_ui_63, z_ui_86, z_ui_88, z_ul_Y, z_sz_Y, z_sw_Y, iI_nat, z_ix_t, z_at, z_x_eq, z_g_t, z_bI_s, z_bL_s, z_bR_s, z_bV_s, Int.cast_ofNat_Int, Nat.ble_eq_true_of_le, beq_self_eq_true, Bool.and_true, Bool.true_and, Bool.and_self, Bool.or_true, Bool.true_or, Bool.not_false, Bool.not_true, if_true, if_false, ite_true, ite_false, z_up_eq, z_up_ne, z_ro_eq, p_isIn]
theorem p_isPerson (d : Nat) (T : ZT) (G : ZG) (s : ZG × ZG) {x : Int} (h : i_in x ∧ 0 ≤ G 81 1 ∧ G 81 1 ≤ 10) : z_call (d + 2) 125 [vr 80, vi (iI x)] (z_Y T G s) = some (vi (iI (zb (decide (0 ≤ x ∧ x ≤ G 81 1 - 1)))), z_Y T G s) := by
  rw [e_M_isPerson]
  simp (disch := first | omega | rfl | assumption) only [z_lit0, z_lit1, z_lit2, z_litl, iI_add, iI_sub, iI_mul, iI_neg, iI_and, iI_or, iI_xor, iI_shl, iI_shr, iI_ushr, iI_div, iI_b, iI_c, iI_i2l, lI_l2i, lI_add, lI_sub, lI_mul, lI_neg, lI_div, lI_or, lI_and, lI_shl, lI_shr, nI_iI, lg_lt0, lg_gt0, lg_eq0, i_ne0', l_ne0', iI_lt, iI_le, iI_eq, lI_lt, lI_le, lI_eq, zb_0, zb_fit, zb_fit0, zb_fit1, i_one_zero, i_w_in, z_tb0, z_tb1, z_tb2, z_tb3, z_tb4, z_tb5, z_tb6, z_i_Y, z_i_62, z_i_63, z_i_86, z_i_88, z_l_Y, z_ui_Y, z_ui_62, z_ui_63, z_ui_86, z_ui_88, z_ul_Y, z_sz_Y, z_sw_Y, iI_nat, z_ix_t, z_at, z_x_eq, z_g_t, z_bI_s, z_bL_s, z_bR_s, z_bV_s, Int.cast_ofNat_Int, Nat.ble_eq_true_of_le, beq_self_eq_true, Bool.and_true, Bool.true_and, Bool.and_self, Bool.or_true, Bool.true_or, Bool.not_false, Bool.not_true, if_true, if_false, ite_true, ite_false, z_up_eq, z_up_ne, z_ro_eq, p_isIn]
theorem p_isNote (d : Nat) (T : ZT) (G : ZG) (s : ZG × ZG) {x : Int} (h : i_in x ∧ 0 ≤ G 81 2 ∧ G 81 2 ≤ 12) : z_call (d + 2) 205 [vr 80, vi (iI x)] (z_Y T G s) = some (vi (iI (zb (decide (0 ≤ x ∧ x ≤ G 81 2 - 1)))), z_Y T G s) := by
  rw [e_M_isNote]
  simp (disch := first | omega | rfl | assumption) only [z_lit0, z_lit1, z_lit2, z_litl, iI_add, iI_sub, iI_mul, iI_neg, iI_and, iI_or, iI_xor, iI_shl, iI_shr, iI_ushr, iI_div, iI_b, iI_c, iI_i2l, lI_l2i, lI_add, lI_sub, lI_mul, lI_neg, lI_div, lI_or, lI_and, lI_shl, lI_shr, nI_iI, lg_lt0, lg_gt0, lg_eq0, i_ne0', l_ne0', iI_lt, iI_le, iI_eq, lI_lt, lI_le, lI_eq, zb_0, zb_fit, zb_fit0, zb_fit1, i_one_zero, i_w_in, z_tb0, z_tb1, z_tb2, z_tb3, z_tb4, z_tb5, z_tb6, z_i_Y, z_i_62, z_i_63, z_i_86, z_i_88, z_l_Y, z_ui_Y, z_ui_62, z_ui_63, z_ui_86, z_ui_88, z_ul_Y, z_sz_Y, z_sw_Y, iI_nat, z_ix_t, z_at, z_x_eq, z_g_t, z_bI_s, z_bL_s, z_bR_s, z_bV_s, Int.cast_ofNat_Int, Nat.ble_eq_true_of_le, beq_self_eq_true, Bool.and_true, Bool.true_and, Bool.and_self, Bool.or_true, Bool.true_or, Bool.not_false, Bool.not_true, if_true, if_false, ite_true, ite_false, z_up_eq, z_up_ne, z_ro_eq, p_isIn]
theorem i_shl1 : ∀ n : Nat, n ≤ 12 → i_shl 1 n = 2 ^ n := by decide +kernel
theorem i_shl1i {n : Int} (h : 0 ≤ n ∧ n ≤ 12) : 1 ≤ i_shl 1 n ∧ i_shl 1 n ≤ 4096 := by
  have e := i_shl1 n.toNat (by omega)
  rw [show ((n.toNat : Nat) : Int) = n by omega] at e
  have h2 : ∀ k : Nat, k ≤ 12 → (1 : Int) ≤ 2 ^ k ∧ (2 : Int) ^ k ≤ 4096 := by decide
  rw [e]; exact h2 _ (by omega)
theorem p_areNotes (d : Nat) (T : ZT) (G : ZG) (s : ZG × ZG) {x : Int} (h : i_in x ∧ 0 ≤ G 81 2 ∧ G 81 2 ≤ 12) : z_call (d + 2) 225 [vr 80, vi (iI x)] (z_Y T G s) = some (vi (iI (zb (decide (0 ≤ x ∧ x ≤ i_shl 1 (G 81 2) - 1)))), z_Y T G s) := by
  have h1 := i_shl1i h.2
  rw [e_M_areNotes]
  simp (disch := first | omega | rfl | assumption) only [z_lit0, z_lit1, z_lit2, z_litl, iI_add, iI_sub, iI_mul, iI_neg, iI_and, iI_or, iI_xor, iI_shl, iI_shr, iI_ushr, iI_div, iI_b, iI_c, iI_i2l, lI_l2i, lI_add, lI_sub, lI_mul, lI_neg, lI_div, lI_or, lI_and, lI_shl, lI_shr, nI_iI, lg_lt0, lg_gt0, lg_eq0, i_ne0', l_ne0', iI_lt, iI_le, iI_eq, lI_lt, lI_le, lI_eq, zb_0, zb_fit, zb_fit0, zb_fit1, i_one_zero, i_w_in, z_tb0, z_tb1, z_tb2, z_tb3, z_tb4, z_tb5, z_tb6, z_i_Y, z_i_62, z_i_63, z_i_86, z_i_88, z_l_Y, z_ui_Y, z_ui_62, z_ui_63, z_ui_86, z_ui_88, z_ul_Y, z_sz_Y, z_sw_Y, iI_nat, z_ix_t, z_at, z_x_eq, z_g_t, z_bI_s, z_bL_s, z_bR_s, z_bV_s, Int.cast_ofNat_Int, Nat.ble_eq_true_of_le, beq_self_eq_true, Bool.and_true, Bool.true_and, Bool.and_self, Bool.or_true, Bool.true_or, Bool.not_false, Bool.not_true, if_true, if_false, ite_true, ite_false, z_up_eq, z_up_ne, z_ro_eq, p_isIn]
theorem p_hasSeat (d : Nat) (T : ZT) (G : ZG) (s : ZG × ZG) {x : Int} (h : i_in x ∧ i_in (G 11 0)) : z_call (d + 1) 119 [vr 11, vi (iI x)] (z_Y T G s) = some (vi (iI (zb (decide (0 ≤ x ∧ x ≤ G 11 0 - 1)))), z_Y T G s) := by
  rw [e_H_hasSeat]
  simp (disch := first | omega | rfl | assumption) only [z_lit0, z_lit1, z_lit2, z_litl, iI_add, iI_sub, iI_mul, iI_neg, iI_and, iI_or, iI_xor, iI_shl, iI_shr, iI_ushr, iI_div, iI_b, iI_c, iI_i2l, lI_l2i, lI_add, lI_sub, lI_mul, lI_neg, lI_div, lI_or, lI_and, lI_shl, lI_shr, nI_iI, lg_lt0, lg_gt0, lg_eq0, i_ne0', l_ne0', iI_lt, iI_le, iI_eq, lI_lt, lI_le, lI_eq, zb_0, zb_fit, zb_fit0, zb_fit1, i_one_zero, i_w_in, z_tb0, z_tb1, z_tb2, z_tb3, z_tb4, z_tb5, z_tb6, z_i_Y, z_i_62, z_i_63, z_i_86, z_i_88, z_l_Y, z_ui_Y, z_ui_62, z_ui_63, z_ui_86, z_ui_88, z_ul_Y, z_sz_Y, z_sw_Y, iI_nat, z_ix_t, z_at, z_x_eq, z_g_t, z_bI_s, z_bL_s, z_bR_s, z_bV_s, Int.cast_ofNat_Int, Nat.ble_eq_true_of_le, beq_self_eq_true, Bool.and_true, Bool.true_and, Bool.and_self, Bool.or_true, Bool.true_or, Bool.not_false, Bool.not_true, if_true, if_false, ite_true, ite_false, z_up_eq, z_up_ne, z_ro_eq]
  split
  · rw [decide_eq_false (by omega)]; rfl
  · split
    · rw [decide_eq_true (by omega)]; rfl
    · rw [decide_eq_false (by omega)]; rfl
theorem p_hasPerson (d : Nat) (T : ZT) (G : ZG) (s : ZG × ZG) {x : Int} (h : i_in x ∧ i_in (G 11 3)) : z_call (d + 1) 118 [vr 11, vi (iI x)] (z_Y T G s) = some (vi (iI (zb (decide (0 ≤ x ∧ x ≤ G 11 3 - 1)))), z_Y T G s) := by
  rw [e_H_hasPerson]
  simp (disch := first | omega | rfl | assumption) only [z_lit0, z_lit1, z_lit2, z_litl, iI_add, iI_sub, iI_mul, iI_neg, iI_and, iI_or, iI_xor, iI_shl, iI_shr, iI_ushr, iI_div, iI_b, iI_c, iI_i2l, lI_l2i, lI_add, lI_sub, lI_mul, lI_neg, lI_div, lI_or, lI_and, lI_shl, lI_shr, nI_iI, lg_lt0, lg_gt0, lg_eq0, i_ne0', l_ne0', iI_lt, iI_le, iI_eq, lI_lt, lI_le, lI_eq, zb_0, zb_fit, zb_fit0, zb_fit1, i_one_zero, i_w_in, z_tb0, z_tb1, z_tb2, z_tb3, z_tb4, z_tb5, z_tb6, z_i_Y, z_i_62, z_i_63, z_i_86, z_i_88, z_l_Y, z_ui_Y, z_ui_62, z_ui_63, z_ui_86, z_ui_88, z_ul_Y, z_sz_Y, z_sw_Y, iI_nat, z_ix_t, z_at, z_x_eq, z_g_t, z_bI_s, z_bL_s, z_bR_s, z_bV_s, Int.cast_ofNat_Int, Nat.ble_eq_true_of_le, beq_self_eq_true, Bool.and_true, Bool.true_and, Bool.and_self, Bool.or_true, Bool.true_or, Bool.not_false, Bool.not_true, if_true, if_false, ite_true, ite_false, z_up_eq, z_up_ne, z_ro_eq]
  split
  · rw [decide_eq_false (by omega)]; rfl
  · split
    · rw [decide_eq_true (by omega)]; rfl
    · rw [decide_eq_false (by omega)]; rfl
theorem p_hasNote (d : Nat) (T : ZT) (G : ZG) (s : ZG × ZG) {x : Int} (h : i_in x ∧ i_in (G 11 7)) : z_call (d + 1) 199 [vr 11, vi (iI x)] (z_Y T G s) = some (vi (iI (zb (decide (0 ≤ x ∧ x ≤ G 11 7 - 1)))), z_Y T G s) := by
  rw [e_H_hasNote]
  simp (disch := first | omega | rfl | assumption) only [z_lit0, z_lit1, z_lit2, z_litl, iI_add, iI_sub, iI_mul, iI_neg, iI_and, iI_or, iI_xor, iI_shl, iI_shr, iI_ushr, iI_div, iI_b, iI_c, iI_i2l, lI_l2i, lI_add, lI_sub, lI_mul, lI_neg, lI_div, lI_or, lI_and, lI_shl, lI_shr, nI_iI, lg_lt0, lg_gt0, lg_eq0, i_ne0', l_ne0', iI_lt, iI_le, iI_eq, lI_lt, lI_le, lI_eq, zb_0, zb_fit, zb_fit0, zb_fit1, i_one_zero, i_w_in, z_tb0, z_tb1, z_tb2, z_tb3, z_tb4, z_tb5, z_tb6, z_i_Y, z_i_62, z_i_63, z_i_86, z_i_88, z_l_Y, z_ui_Y, z_ui_62, z_ui_63, z_ui_86, z_ui_88, z_ul_Y, z_sz_Y, z_sw_Y, iI_nat, z_ix_t, z_at, z_x_eq, z_g_t, z_bI_s, z_bL_s, z_bR_s, z_bV_s, Int.cast_ofNat_Int, Nat.ble_eq_true_of_le, beq_self_eq_true, Bool.and_true, Bool.true_and, Bool.and_self, Bool.or_true, Bool.true_or, Bool.not_false, Bool.not_true, if_true, if_false, ite_true, ite_false, z_up_eq, z_up_ne, z_ro_eq]
  split
  · rw [decide_eq_false (by omega)]; rfl
  · split
    · rw [decide_eq_true (by omega)]; rfl
    · rw [decide_eq_false (by omega)]; rfl
theorem p_hasText (d : Nat) (T : ZT) (G : ZG) (s : ZG × ZG) {x : Int} (h : i_in x ∧ i_in (G 11 10)) : z_call (d + 1) 115 [vr 11, vi (iI x)] (z_Y T G s) = some (vi (iI (zb (decide (0 ≤ x ∧ x ≤ G 11 10 - 1)))), z_Y T G s) := by
  rw [e_H_hasText]
  simp (disch := first | omega | rfl | assumption) only [z_lit0, z_lit1, z_lit2, z_litl, iI_add, iI_sub, iI_mul, iI_neg, iI_and, iI_or, iI_xor, iI_shl, iI_shr, iI_ushr, iI_div, iI_b, iI_c, iI_i2l, lI_l2i, lI_add, lI_sub, lI_mul, lI_neg, lI_div, lI_or, lI_and, lI_shl, lI_shr, nI_iI, lg_lt0, lg_gt0, lg_eq0, i_ne0', l_ne0', iI_lt, iI_le, iI_eq, lI_lt, lI_le, lI_eq, zb_0, zb_fit, zb_fit0, zb_fit1, i_one_zero, i_w_in, z_tb0, z_tb1, z_tb2, z_tb3, z_tb4, z_tb5, z_tb6, z_i_Y, z_i_62, z_i_63, z_i_86, z_i_88, z_l_Y, z_ui_Y, z_ui_62, z_ui_63, z_ui_86, z_ui_88, z_ul_Y, z_sz_Y, z_sw_Y, iI_nat, z_ix_t, z_at, z_x_eq, z_g_t, z_bI_s, z_bL_s, z_bR_s, z_bV_s, Int.cast_ofNat_Int, Nat.ble_eq_true_of_le, beq_self_eq_true, Bool.and_true, Bool.true_and, Bool.and_self, Bool.or_true, Bool.true_or, Bool.not_false, Bool.not_true, if_true, if_false, ite_true, ite_false, z_up_eq, z_up_ne, z_ro_eq]
  split
  · rw [decide_eq_false (by omega)]; rfl
  · split
    · rw [decide_eq_true (by omega)]; rfl
    · rw [decide_eq_false (by omega)]; rfl
theorem p_hasNotes (d : Nat) (T : ZT) (G : ZG) (s : ZG × ZG) {x : Int} (h : i_in x ∧ 0 ≤ G 11 7 ∧ G 11 7 ≤ 12) : z_call (d + 1) 220 [vr 11, vi (iI x)] (z_Y T G s) = some (vi (iI (zb (decide (0 ≤ x ∧ x ≤ i_shl 1 (G 11 7) - 1)))), z_Y T G s) := by
  have h1 := i_shl1i h.2
  rw [e_H_hasNotes]
  simp (disch := first | omega | rfl | assumption) only [z_lit0, z_lit1, z_lit2, z_litl, iI_add, iI_sub, iI_mul, iI_neg, iI_and, iI_or, iI_xor, iI_shl, iI_shr, iI_ushr, iI_div, iI_b, iI_c, iI_i2l, lI_l2i, lI_add, lI_sub, lI_mul, lI_neg, lI_div, lI_or, lI_and, lI_shl, lI_shr, nI_iI, lg_lt0, lg_gt0, lg_eq0, i_ne0', l_ne0', iI_lt, iI_le, iI_eq, lI_lt, lI_le, lI_eq, zb_0, zb_fit, zb_fit0, zb_fit1, i_one_zero, i_w_in, z_tb0, z_tb1, z_tb2, z_tb3, z_tb4, z_tb5, z_tb6, z_i_Y, z_i_62, z_i_63, z_i_86, z_i_88, z_l_Y, z_ui_Y, z_ui_62, z_ui_63, z_ui_86, z_ui_88, z_ul_Y, z_sz_Y, z_sw_Y, iI_nat, z_ix_t, z_at, z_x_eq, z_g_t, z_bI_s, z_bL_s, z_bR_s, z_bV_s, Int.cast_ofNat_Int, Nat.ble_eq_true_of_le, beq_self_eq_true, Bool.and_true, Bool.true_and, Bool.and_self, Bool.or_true, Bool.true_or, Bool.not_false, Bool.not_true, if_true, if_false, ite_true, ite_false, z_up_eq, z_up_ne, z_ro_eq]
  split
  · rw [decide_eq_false (by omega)]; rfl
  · split
    · rw [decide_eq_true (by omega)]; rfl
    · rw [decide_eq_false (by omega)]; rfl
/-- who sits on a seat -/
def m_sit (A : Int → Int) (x : Int) : Int := z_find (A 1).toNat 0 (fun p => decide (A (32 + 5 * p + 3) = x))
theorem p_sitterOf_l (d : Nat) (T : ZT) (G : ZG) (s : ZG × ZG) {x : Int} (hx : i_in x) (h1 : 0 ≤ G 81 1 ∧ G 81 1 ≤ 10) (hA : ∀ p, 0 ≤ p → p < G 81 1 → i_in (G 81 (32 + 5 * p + 3))) : ∀ (n : Nat) (i : Int), 0 ≤ i → i + n = G 81 1 → z_w d_M_sitterOf (z_call (d + 1)) 2 [some (vr 80), some (vi (iI x)), some (vi (iI i))] [] (z_Y T G s) = some (vi (iI (z_find n i (fun p => decide (G 81 (32 + 5 * p + 3) = x)))), z_Y T G s)
  | 0, i, h0, h => by
    rw [e_M_sitterOf_2]
    simp (disch := first | omega | rfl | assumption) only [z_lit0, z_lit1, z_lit2, z_litl, iI_add, iI_sub, iI_mul, iI_neg, iI_and, iI_or, iI_xor, iI_shl, iI_shr, iI_ushr, iI_div, iI_b, iI_c, iI_i2l, lI_l2i, lI_add, lI_sub, lI_mul, lI_neg, lI_div, lI_or, lI_and, lI_shl, lI_shr, nI_iI, lg_lt0, lg_gt0, lg_eq0, i_ne0', l_ne0', iI_lt, iI_le, iI_eq, lI_lt, lI_le, lI_eq, zb_0, zb_fit, zb_fit0, zb_fit1, i_one_zero, i_w_in, z_tb0, z_tb1, z_tb2, z_tb3, z_tb4, z_tb5, z_tb6, z_i_Y, z_i_62, z_i_63, z_i_86, z_i_88, z_l_Y, z_ui_Y, z_ui_62, z_ui_63, z_ui_86, z_ui_88, z_ul_Y, z_sz_Y, z_sw_Y, iI_nat, z_ix_t, z_at, z_x_eq, z_g_t, z_bI_s, z_bL_s, z_bR_s, z_bV_s, Int.cast_ofNat_Int, Nat.ble_eq_true_of_le, beq_self_eq_true, Bool.and_true, Bool.true_and, Bool.and_self, Bool.or_true, Bool.true_or, Bool.not_false, Bool.not_true, if_true, if_false, ite_true, ite_false, z_up_eq, z_up_ne, z_ro_eq]
    rw [if_neg (by omega)]
    rfl
  | n + 1, i, h0, h => by
    have ha := hA i h0 (by omega)
    rw [e_M_sitterOf_2]
    simp (disch := first | omega | rfl | assumption) only [z_lit0, z_lit1, z_lit2, z_litl, iI_add, iI_sub, iI_mul, iI_neg, iI_and, iI_or, iI_xor, iI_shl, iI_shr, iI_ushr, iI_div, iI_b, iI_c, iI_i2l, lI_l2i, lI_add, lI_sub, lI_mul, lI_neg, lI_div, lI_or, lI_and, lI_shl, lI_shr, nI_iI, lg_lt0, lg_gt0, lg_eq0, i_ne0', l_ne0', iI_lt, iI_le, iI_eq, lI_lt, lI_le, lI_eq, zb_0, zb_fit, zb_fit0, zb_fit1, i_one_zero, i_w_in, z_tb0, z_tb1, z_tb2, z_tb3, z_tb4, z_tb5, z_tb6, z_i_Y, z_i_62, z_i_63, z_i_86, z_i_88, z_l_Y, z_ui_Y, z_ui_62, z_ui_63, z_ui_86, z_ui_88, z_ul_Y, z_sz_Y, z_sw_Y, iI_nat, z_ix_t, z_at, z_x_eq, z_g_t, z_bI_s, z_bL_s, z_bR_s, z_bV_s, Int.cast_ofNat_Int, Nat.ble_eq_true_of_le, beq_self_eq_true, Bool.and_true, Bool.true_and, Bool.and_self, Bool.or_true, Bool.true_or, Bool.not_false, Bool.not_true, if_true, if_false, ite_true, ite_false, z_up_eq, z_up_ne, z_ro_eq, p_get]
    rw [if_pos (by omega), p_sitterOf_l d T G s hx h1 hA n (i + 1) (by omega) (by omega)]
    show _ = some (vi (iI (cond (decide (G 81 (32 + 5 * i + 3) = x)) i _)), _)
    split
    · rename_i q; rw [decide_eq_true q]; rfl
    · rename_i q; rw [decide_eq_false q]; rfl
theorem p_sitterOf (d : Nat) (T : ZT) (G : ZG) (s : ZG × ZG) {x : Int} (hx : i_in x) (hM : m_ok (G 81)) : z_call (d + 2) 128 [vr 80, vi (iI x)] (z_Y T G s) = some (vi (iI (m_sit (G 81) x)), z_Y T G s) := by
  obtain ⟨m0, m1, m2, m3, m4, m5, m6, m7, m8, m9, m10, m11, ms, mp, mn, mc, mb, me⟩ := hM
  rw [e_M_sitterOf]
  simp (disch := first | omega | rfl | assumption) only [z_lit0, z_lit1, z_lit2, z_litl, iI_add, iI_sub, iI_mul, iI_neg, iI_and, iI_or, iI_xor, iI_shl, iI_shr, iI_ushr, iI_div, iI_b, iI_c, iI_i2l, lI_l2i, lI_add, lI_sub, lI_mul, lI_neg, lI_div, lI_or, lI_and, lI_shl, lI_shr, nI_iI, lg_lt0, lg_gt0, lg_eq0, i_ne0', l_ne0', iI_lt, iI_le, iI_eq, lI_lt, lI_le, lI_eq, zb_0, zb_fit, zb_fit0, zb_fit1, i_one_zero, i_w_in, z_tb0, z_tb1, z_tb2, z_tb3, z_tb4, z_tb5, z_tb6, z_i_Y, z_i_62, z_i_63, z_i_86, z_i_88, z_l_Y, z_ui_Y, z_ui_62, z_ui_63, z_ui_86, z_ui_88, z_ul_Y, z_sz_Y, z_sw_Y, iI_nat, z_ix_t, z_at, z_x_eq, z_g_t, z_bI_s, z_bL_s, z_bR_s, z_bV_s, Int.cast_ofNat_Int, Nat.ble_eq_true_of_le, beq_self_eq_true, Bool.and_true, Bool.true_and, Bool.and_self, Bool.or_true, Bool.true_or, Bool.not_false, Bool.not_true, if_true, if_false, ite_true, ite_false, z_up_eq, z_up_ne, z_ro_eq]
  exact p_sitterOf_l d T G s hx m1 (fun p a b => by have := (mp p a b).2.2.2.1; omega) (G 81 1).toNat 0 (by omega) (by omega)
theorem p_whoSits_l (d : Nat) (T : ZT) (G : ZG) (s : ZG × ZG) {x : Int} (hx : i_in x) (hA : ∀ p, 0 ≤ p → p < 10 → i_in (G 21 p)) : ∀ (n : Nat) (i : Int), 0 ≤ i → i + n = 10 → z_w d_Mo_whoSits (z_call d) 2 [some (vr 20), some (vi (iI x)), some (vi (iI i))] [] (z_Y T G s) = some (vi (iI (z_find n i (fun p => decide (G 21 p = x)))), z_Y T G s)
  | 0, i, h0, h => by
    rw [e_Mo_whoSits_2]
    simp (disch := first | omega | rfl | assumption) only [z_lit0, z_lit1, z_lit2, z_litl, iI_add, iI_sub, iI_mul, iI_neg, iI_and, iI_or, iI_xor, iI_shl, iI_shr, iI_ushr, iI_div, iI_b, iI_c, iI_i2l, lI_l2i, lI_add, lI_sub, lI_mul, lI_neg, lI_div, lI_or, lI_and, lI_shl, lI_shr, nI_iI, lg_lt0, lg_gt0, lg_eq0, i_ne0', l_ne0', iI_lt, iI_le, iI_eq, lI_lt, lI_le, lI_eq, zb_0, zb_fit, zb_fit0, zb_fit1, i_one_zero, i_w_in, z_tb0, z_tb1, z_tb2, z_tb3, z_tb4, z_tb5, z_tb6, z_i_Y, z_i_62, z_i_63, z_i_86, z_i_88, z_l_Y, z_ui_Y, z_ui_62, z_ui_63, z_ui_86, z_ui_88, z_ul_Y, z_sz_Y, z_sw_Y, iI_nat, z_ix_t, z_at, z_x_eq, z_g_t, z_bI_s, z_bL_s, z_bR_s, z_bV_s, Int.cast_ofNat_Int, Nat.ble_eq_true_of_le, beq_self_eq_true, Bool.and_true, Bool.true_and, Bool.and_self, Bool.or_true, Bool.true_or, Bool.not_false, Bool.not_true, if_true, if_false, ite_true, ite_false, z_up_eq, z_up_ne, z_ro_eq]
    rw [if_neg (by omega)]
    rfl
  | n + 1, i, h0, h => by
    have ha := hA i h0 (by omega)
    rw [e_Mo_whoSits_2]
    simp (disch := first | omega | rfl | assumption) only [z_lit0, z_lit1, z_lit2, z_litl, iI_add, iI_sub, iI_mul, iI_neg, iI_and, iI_or, iI_xor, iI_shl, iI_shr, iI_ushr, iI_div, iI_b, iI_c, iI_i2l, lI_l2i, lI_add, lI_sub, lI_mul, lI_neg, lI_div, lI_or, lI_and, lI_shl, lI_shr, nI_iI, lg_lt0, lg_gt0, lg_eq0, i_ne0', l_ne0', iI_lt, iI_le, iI_eq, lI_lt, lI_le, lI_eq, zb_0, zb_fit, zb_fit0, zb_fit1, i_one_zero, i_w_in, z_tb0, z_tb1, z_tb2, z_tb3, z_tb4, z_tb5, z_tb6, z_i_Y, z_i_62, z_i_63, z_i_86, z_i_88, z_l_Y, z_ui_Y, z_ui_62, z_ui_63, z_ui_86, z_ui_88, z_ul_Y, z_sz_Y, z_sw_Y, iI_nat, z_ix_t, z_at, z_x_eq, z_g_t, z_bI_s, z_bL_s, z_bR_s, z_bV_s, Int.cast_ofNat_Int, Nat.ble_eq_true_of_le, beq_self_eq_true, Bool.and_true, Bool.true_and, Bool.and_self, Bool.or_true, Bool.true_or, Bool.not_false, Bool.not_true, if_true, if_false, ite_true, ite_false, z_up_eq, z_up_ne, z_ro_eq]
    rw [if_pos (by omega), p_whoSits_l d T G s hx hA n (i + 1) (by omega) (by omega)]
    show _ = some (vi (iI (cond (decide (G 21 i = x)) i _)), _)
    split
    · rename_i q; rw [decide_eq_true q]; rfl
    · rename_i q; rw [decide_eq_false q]; rfl
/-- the class finds the same one -/
theorem p_whoSits (d : Nat) (T : ZT) (G : ZG) (s : ZG × ZG) {x : Int} (hx : 0 ≤ x ∧ x < 2147483648) (hC : c_now G) : z_call (d + 1) 120 [vr 20, vi (iI x)] (z_Y T G s) = some (vi (iI (m_sit (G 81) x)), z_Y T G s) := by
  obtain ⟨hM, hI, hH, hO, hT, hS⟩ := hC
  obtain ⟨m0, m1, m2, m3, m4, m5, m6, m7, m8, m9, m10, m11, ms, mp, mn, mc, mb, me⟩ := hM
  obtain ⟨o1, o2, o3, o4⟩ := hO
  rw [e_Mo_whoSits]
  simp (disch := first | omega | rfl | assumption) only [z_lit0, z_lit1, z_lit2, z_litl, iI_add, iI_sub, iI_mul, iI_neg, iI_and, iI_or, iI_xor, iI_shl, iI_shr, iI_ushr, iI_div, iI_b, iI_c, iI_i2l, lI_l2i, lI_add, lI_sub, lI_mul, lI_neg, lI_div, lI_or, lI_and, lI_shl, lI_shr, nI_iI, lg_lt0, lg_gt0, lg_eq0, i_ne0', l_ne0', iI_lt, iI_le, iI_eq, lI_lt, lI_le, lI_eq, zb_0, zb_fit, zb_fit0, zb_fit1, i_one_zero, i_w_in, z_tb0, z_tb1, z_tb2, z_tb3, z_tb4, z_tb5, z_tb6, z_i_Y, z_i_62, z_i_63, z_i_86, z_i_88, z_l_Y, z_ui_Y, z_ui_62, z_ui_63, z_ui_86, z_ui_88, z_ul_Y, z_sz_Y, z_sw_Y, iI_nat, z_ix_t, z_at, z_x_eq, z_g_t, z_bI_s, z_bL_s, z_bR_s, z_bV_s, Int.cast_ofNat_Int, Nat.ble_eq_true_of_le, beq_self_eq_true, Bool.and_true, Bool.true_and, Bool.and_self, Bool.or_true, Bool.true_or, Bool.not_false, Bool.not_true, if_true, if_false, ite_true, ite_false, z_up_eq, z_up_ne, z_ro_eq]
  rw [p_whoSits_l d T G s (x := x) ⟨by omega, by omega⟩ (fun p a b => ?_) 10 0 (by omega) (by omega)]
  · unfold m_sit
    rw [show (10 : Nat) = (G 81 1).toNat + (10 - (G 81 1).toNat) by omega, z_find_more (G 81 1).toNat (10 - (G 81 1).toNat) 0 (fun k a b => ?_)]
    · rw [z_find_eq (G 81 1).toNat 0 (fun k a b => ?_)]
      have := (o2 k (by omega) (by omega)).1
      simp only [Nat.reduceAdd] at this
      rw [this]
    · have := (o3 k (by omega) (by omega)).1
      simp only [Nat.reduceAdd] at this
      rw [this]
      exact decide_eq_false (by omega)
  · by_cases c : p < G 81 1
    · have h1 := (o2 p a c).1
      have h2 := (mp p a c).2.2.2.1
      simp only [Nat.reduceAdd] at h1
      rw [h1]; exact ⟨by omega, by omega⟩
    · have h1 := (o3 p (by omega) b).1
      simp only [Nat.reduceAdd] at h1
      rw [h1]; exact ⟨by omega, by omega⟩
/-- whether one coughs at a beat -/
def m_cgh (A : Int → Int) (p b : Int) : Bool := z_any (A 11).toNat 0 (fun k => decide (A (106 + 2 * k) = p ∧ A (106 + 2 * k + 1) = b))
theorem p_mcgh_l (d : Nat) (T : ZT) (G : ZG) (s : ZG × ZG) {p b : Int} (hp : i_in p ∧ i_in b) (h1 : 0 ≤ G 81 11 ∧ G 81 11 ≤ 20) (hA : ∀ k, 0 ≤ k → k < G 81 11 → i_in (G 81 (106 + 2 * k)) ∧ i_in (G 81 (106 + 2 * k + 1))) : ∀ (n : Nat) (i : Int), 0 ≤ i → i + n = G 81 11 → z_w d_M_isCoughing (z_call d) 2 [some (vr 80), some (vi (iI p)), some (vi (iI b)), some (vi (iI i))] [] (z_Y T G s) = some (vi (iI (zb (z_any n i (fun k => decide (G 81 (106 + 2 * k) = p ∧ G 81 (106 + 2 * k + 1) = b))))), z_Y T G s)
  | 0, i, h0, h => by
    rw [e_M_isCoughing_2]
    simp (disch := first | omega | rfl | assumption) only [z_lit0, z_lit1, z_lit2, z_litl, iI_add, iI_sub, iI_mul, iI_neg, iI_and, iI_or, iI_xor, iI_shl, iI_shr, iI_ushr, iI_div, iI_b, iI_c, iI_i2l, lI_l2i, lI_add, lI_sub, lI_mul, lI_neg, lI_div, lI_or, lI_and, lI_shl, lI_shr, nI_iI, lg_lt0, lg_gt0, lg_eq0, i_ne0', l_ne0', iI_lt, iI_le, iI_eq, lI_lt, lI_le, lI_eq, zb_0, zb_fit, zb_fit0, zb_fit1, i_one_zero, i_w_in, z_tb0, z_tb1, z_tb2, z_tb3, z_tb4, z_tb5, z_tb6, z_i_Y, z_i_62, z_i_63, z_i_86, z_i_88, z_l_Y, z_ui_Y, z_ui_62, z_ui_63, z_ui_86, z_ui_88, z_ul_Y, z_sz_Y, z_sw_Y, iI_nat, z_ix_t, z_at, z_x_eq, z_g_t, z_bI_s, z_bL_s, z_bR_s, z_bV_s, Int.cast_ofNat_Int, Nat.ble_eq_true_of_le, beq_self_eq_true, Bool.and_true, Bool.true_and, Bool.and_self, Bool.or_true, Bool.true_or, Bool.not_false, Bool.not_true, if_true, if_false, ite_true, ite_false, z_up_eq, z_up_ne, z_ro_eq]
    rw [if_neg (by omega)]
    rfl
  | n + 1, i, h0, h => by
    have ha := hA i h0 (by omega)
    rw [e_M_isCoughing_2]
    simp (disch := first | omega | rfl | assumption) only [z_lit0, z_lit1, z_lit2, z_litl, iI_add, iI_sub, iI_mul, iI_neg, iI_and, iI_or, iI_xor, iI_shl, iI_shr, iI_ushr, iI_div, iI_b, iI_c, iI_i2l, lI_l2i, lI_add, lI_sub, lI_mul, lI_neg, lI_div, lI_or, lI_and, lI_shl, lI_shr, nI_iI, lg_lt0, lg_gt0, lg_eq0, i_ne0', l_ne0', iI_lt, iI_le, iI_eq, lI_lt, lI_le, lI_eq, zb_0, zb_fit, zb_fit0, zb_fit1, i_one_zero, i_w_in, z_tb0, z_tb1, z_tb2, z_tb3, z_tb4, z_tb5, z_tb6, z_i_Y, z_i_62, z_i_63, z_i_86, z_i_88, z_l_Y, z_ui_Y, z_ui_62, z_ui_63, z_ui_86, z_ui_88, z_ul_Y, z_sz_Y, z_sw_Y, iI_nat, z_ix_t, z_at, z_x_eq, z_g_t, z_bI_s, z_bL_s, z_bR_s, z_bV_s, Int.cast_ofNat_Int, Nat.ble_eq_true_of_le, beq_self_eq_true, Bool.and_true, Bool.true_and, Bool.and_self, Bool.or_true, Bool.true_or, Bool.not_false, Bool.not_true, if_true, if_false, ite_true, ite_false, z_up_eq, z_up_ne, z_ro_eq]
    rw [if_pos (by omega), p_mcgh_l d T G s hp h1 hA n (i + 1) (by omega) (by omega)]
    show _ = some (vi (iI (zb (decide _ || _))), _)
    split
    · rename_i q
      split
      · rename_i r; rw [decide_eq_true ⟨q, r⟩]; rfl
      · rename_i r; rw [decide_eq_false (fun c => r c.2)]; rfl
    · rename_i q; rw [decide_eq_false (fun c => q c.1)]; rfl
theorem p_mcgh (d : Nat) (T : ZT) (G : ZG) (s : ZG × ZG) {p b : Int} (hp : i_in p ∧ i_in b) (hM : m_ok (G 81)) : z_call (d + 1) 155 [vr 80, vi (iI p), vi (iI b)] (z_Y T G s) = some (vi (iI (zb (m_cgh (G 81) p b))), z_Y T G s) := by
  obtain ⟨m0, m1, m2, m3, m4, m5, m6, m7, m8, m9, m10, m11, ms, mp, mn, mc, mb, me⟩ := hM
  rw [e_M_isCoughing]
  simp (disch := first | omega | rfl | assumption) only [z_lit0, z_lit1, z_lit2, z_litl, iI_add, iI_sub, iI_mul, iI_neg, iI_and, iI_or, iI_xor, iI_shl, iI_shr, iI_ushr, iI_div, iI_b, iI_c, iI_i2l, lI_l2i, lI_add, lI_sub, lI_mul, lI_neg, lI_div, lI_or, lI_and, lI_shl, lI_shr, nI_iI, lg_lt0, lg_gt0, lg_eq0, i_ne0', l_ne0', iI_lt, iI_le, iI_eq, lI_lt, lI_le, lI_eq, zb_0, zb_fit, zb_fit0, zb_fit1, i_one_zero, i_w_in, z_tb0, z_tb1, z_tb2, z_tb3, z_tb4, z_tb5, z_tb6, z_i_Y, z_i_62, z_i_63, z_i_86, z_i_88, z_l_Y, z_ui_Y, z_ui_62, z_ui_63, z_ui_86, z_ui_88, z_ul_Y, z_sz_Y, z_sw_Y, iI_nat, z_ix_t, z_at, z_x_eq, z_g_t, z_bI_s, z_bL_s, z_bR_s, z_bV_s, Int.cast_ofNat_Int, Nat.ble_eq_true_of_le, beq_self_eq_true, Bool.and_true, Bool.true_and, Bool.and_self, Bool.or_true, Bool.true_or, Bool.not_false, Bool.not_true, if_true, if_false, ite_true, ite_false, z_up_eq, z_up_ne, z_ro_eq]
  exact p_mcgh_l d T G s hp m11 (fun k a b => by have := mc k a b; omega) (G 81 11).toNat 0 (by omega) (by omega)
theorem p_cgh_l (d : Nat) (T : ZT) (G : ZG) (s : ZG × ZG) {p b : Int} (hp : i_in p ∧ i_in b) (h1 : 0 ≤ G 20 5 ∧ G 20 5 ≤ 20) (hA : ∀ k, 0 ≤ k → k < G 20 5 → i_in (G 23 k) ∧ i_in (G 24 k)) : ∀ (n : Nat) (i : Int), 0 ≤ i → i + n = G 20 5 → z_w d_Mo_isCoughing (z_call d) 2 [some (vr 20), some (vi (iI p)), some (vi (iI b)), some (vi (iI i))] [] (z_Y T G s) = some (vi (iI (zb (z_any n i (fun k => decide (G 23 k = p ∧ G 24 k = b))))), z_Y T G s)
  | 0, i, h0, h => by
    rw [e_Mo_isCoughing_2]
    simp (disch := first | omega | rfl | assumption) only [z_lit0, z_lit1, z_lit2, z_litl, iI_add, iI_sub, iI_mul, iI_neg, iI_and, iI_or, iI_xor, iI_shl, iI_shr, iI_ushr, iI_div, iI_b, iI_c, iI_i2l, lI_l2i, lI_add, lI_sub, lI_mul, lI_neg, lI_div, lI_or, lI_and, lI_shl, lI_shr, nI_iI, lg_lt0, lg_gt0, lg_eq0, i_ne0', l_ne0', iI_lt, iI_le, iI_eq, lI_lt, lI_le, lI_eq, zb_0, zb_fit, zb_fit0, zb_fit1, i_one_zero, i_w_in, z_tb0, z_tb1, z_tb2, z_tb3, z_tb4, z_tb5, z_tb6, z_i_Y, z_i_62, z_i_63, z_i_86, z_i_88, z_l_Y, z_ui_Y, z_ui_62, z_ui_63, z_ui_86, z_ui_88, z_ul_Y, z_sz_Y, z_sw_Y, iI_nat, z_ix_t, z_at, z_x_eq, z_g_t, z_bI_s, z_bL_s, z_bR_s, z_bV_s, Int.cast_ofNat_Int, Nat.ble_eq_true_of_le, beq_self_eq_true, Bool.and_true, Bool.true_and, Bool.and_self, Bool.or_true, Bool.true_or, Bool.not_false, Bool.not_true, if_true, if_false, ite_true, ite_false, z_up_eq, z_up_ne, z_ro_eq]
    rw [if_neg (by omega)]
    rfl
  | n + 1, i, h0, h => by
    have ha := hA i h0 (by omega)
    rw [e_Mo_isCoughing_2]
    simp (disch := first | omega | rfl | assumption) only [z_lit0, z_lit1, z_lit2, z_litl, iI_add, iI_sub, iI_mul, iI_neg, iI_and, iI_or, iI_xor, iI_shl, iI_shr, iI_ushr, iI_div, iI_b, iI_c, iI_i2l, lI_l2i, lI_add, lI_sub, lI_mul, lI_neg, lI_div, lI_or, lI_and, lI_shl, lI_shr, nI_iI, lg_lt0, lg_gt0, lg_eq0, i_ne0', l_ne0', iI_lt, iI_le, iI_eq, lI_lt, lI_le, lI_eq, zb_0, zb_fit, zb_fit0, zb_fit1, i_one_zero, i_w_in, z_tb0, z_tb1, z_tb2, z_tb3, z_tb4, z_tb5, z_tb6, z_i_Y, z_i_62, z_i_63, z_i_86, z_i_88, z_l_Y, z_ui_Y, z_ui_62, z_ui_63, z_ui_86, z_ui_88, z_ul_Y, z_sz_Y, z_sw_Y, iI_nat, z_ix_t, z_at, z_x_eq, z_g_t, z_bI_s, z_bL_s, z_bR_s, z_bV_s, Int.cast_ofNat_Int, Nat.ble_eq_true_of_le, beq_self_eq_true, Bool.and_true, Bool.true_and, Bool.and_self, Bool.or_true, Bool.true_or, Bool.not_false, Bool.not_true, if_true, if_false, ite_true, ite_false, z_up_eq, z_up_ne, z_ro_eq]
    rw [if_pos (by omega), p_cgh_l d T G s hp h1 hA n (i + 1) (by omega) (by omega)]
    show _ = some (vi (iI (zb (decide _ || _))), _)
    split
    · rename_i q
      split
      · rename_i r; rw [decide_eq_true ⟨q, r⟩]; rfl
      · rename_i r; rw [decide_eq_false (fun c => r c.2)]; rfl
    · rename_i q; rw [decide_eq_false (fun c => q c.1)]; rfl
theorem p_cgh (d : Nat) (T : ZT) (G : ZG) (s : ZG × ZG) {p b : Int} (hp : i_in p ∧ i_in b) (hC : c_now G) : z_call (d + 1) 141 [vr 20, vi (iI p), vi (iI b)] (z_Y T G s) = some (vi (iI (zb (m_cgh (G 81) p b))), z_Y T G s) := by
  obtain ⟨hM, hI, hH, hO, hT, hS⟩ := hC
  obtain ⟨m0, m1, m2, m3, m4, m5, m6, m7, m8, m9, m10, m11, ms, mp, mn, mc, mb, me⟩ := hM
  obtain ⟨⟨o11, o12, o13, o14⟩, o2, o3, o4⟩ := hO
  simp only [Nat.reduceAdd] at o14 o4
  rw [e_Mo_isCoughing]
  simp (disch := first | omega | rfl | assumption) only [z_lit0, z_lit1, z_lit2, z_litl, iI_add, iI_sub, iI_mul, iI_neg, iI_and, iI_or, iI_xor, iI_shl, iI_shr, iI_ushr, iI_div, iI_b, iI_c, iI_i2l, lI_l2i, lI_add, lI_sub, lI_mul, lI_neg, lI_div, lI_or, lI_and, lI_shl, lI_shr, nI_iI, lg_lt0, lg_gt0, lg_eq0, i_ne0', l_ne0', iI_lt, iI_le, iI_eq, lI_lt, lI_le, lI_eq, zb_0, zb_fit, zb_fit0, zb_fit1, i_one_zero, i_w_in, z_tb0, z_tb1, z_tb2, z_tb3, z_tb4, z_tb5, z_tb6, z_i_Y, z_i_62, z_i_63, z_i_86, z_i_88, z_l_Y, z_ui_Y, z_ui_62, z_ui_63, z_ui_86, z_ui_88, z_ul_Y, z_sz_Y, z_sw_Y, iI_nat, z_ix_t, z_at, z_x_eq, z_g_t, z_bI_s, z_bL_s, z_bR_s, z_bV_s, Int.cast_ofNat_Int, Nat.ble_eq_true_of_le, beq_self_eq_true, Bool.and_true, Bool.true_and, Bool.and_self, Bool.or_true, Bool.true_or, Bool.not_false, Bool.not_true, if_true, if_false, ite_true, ite_false, z_up_eq, z_up_ne, z_ro_eq]
  rw [p_cgh_l d T G s hp (by omega) (fun k a b => ?_) (G 20 5).toNat 0 (by omega) (by omega)]
  · unfold m_cgh
    rw [o14, z_any_eq (G 81 11).toNat 0 (fun k a b => ?_)]
    have := o4 k a (by omega)
    rw [this.1, this.2]
  · have h1 := o4 k a (by omega)
    have h2 := mc k a (by omega)
    rw [h1.1, h1.2]
    omega

/-! THE PURE PART, 76: the model's next token -/
theorem y_sl_go {P : Int → Bool} {B : Int → Int} {L p : Int} (h : p < L) (hp : P (B p) = true) : y_go P B L p = y_go P B L (p + 1) := by rw [y_go_st h, hp]; rfl
theorem p_nt_85 (d : Nat) (T : ZT) (G : ZG) (s : ZG × ZG) {B : Int → Int} {L : Int} : ∀ (m : Nat) (p n : Int) (R : Int → Int), y_tm (z_up G 80 R) B L → 0 ≤ p → p ≤ L → L ≤ p + m → R 7 = p → R 10 = n → 0 ≤ n → n ≤ 1000000 → ∃ R', z_w d_M_nextToken (z_call (d + 1)) 85 [some (vr 80), none] [] (z_Y T (z_up G 80 R) s) = some (vi (iI 0), z_Y T (z_up G 80 R') s) ∧ R' 7 = y_go y_dig B L p ∧ R' 10 = y_mn B (y_go y_dig B L p - p).toNat p n ∧ ∀ k, k ≠ 7 → k ≠ 10 → R' k = R k := by
  intro m
  induction m with
  | zero =>
    intro p n R hB h0 h1 h2 h7 h10 hn hn2
    have hL := hB.1
    have ba := p_byteAt d T (z_up G 80 R) s hB ⟨h0, h1⟩
    rw [if_neg (show ¬ p < L by omega)] at ba
    have dg := fun σ => p_mDig d (x := -1) σ ⟨by omega, by omega⟩
    rw [show y_dig (-1) = false from rfl] at dg
    have eg : y_go y_dig B L p = p := y_go_end (by omega)
    refine ⟨R, ?_, by rw [eg]; exact h7, by rw [eg, show (p - p).toNat = 0 by omega]; exact h10, fun _ _ _ => rfl⟩
    rw [e_M_nextToken_85]
    simp -implicitDefEqProofs (disch := first | assumption | omega | rfl | (simp only [z_up_eq, z_up_app, ↓reduceIte, Nat.reduceEqDiff]; omega)) only [z_lit0, z_lit1, z_lit2, z_litl, iI_add, iI_sub, iI_mul, iI_neg, iI_and, iI_or, iI_xor, iI_shl, iI_shr, iI_ushr, iI_div, iI_b, iI_c, iI_i2l, lI_l2i, lI_add, lI_sub, lI_mul, lI_neg, lI_div, lI_or, lI_and, lI_shl, lI_shr, nI_iI, lg_lt0, lg_gt0, lg_eq0, i_ne0', l_ne0', iI_lt, iI_le, iI_eq, lI_lt, lI_le, lI_eq, zb_0, zb_fit, zb_fit0, zb_fit1, i_one_zero, i_w_in, z_tb0, z_tb1, z_tb2, z_tb3, z_tb4, z_tb5, z_tb6, z_tb7, z_tb8, z_tbl, z_tu0, z_tu1, z_tu2, z_i_62, z_i_63, z_i_86, z_i_88, z_l_Y, z_ui_62, z_ui_63, z_ui_86, z_ui_88, z_ul_Y, z_sz_Y, z_sw_Y, iI_nat, z_ix_t, z_at, Int.add_zero, Int.sub_zero, Int.zero_add, Int.mul_zero, ne_eq, Bool.false_eq_true, Bool.true_eq_false, reduceCtorEq, eq_self, and_true, true_and, and_false, false_and, and_self, not_true_eq_false, not_false_eq_true, decide_true, decide_false, ↓reduceIte, Int.reduceEq, Int.reduceNe, Int.reduceLT, Int.reduceLE, Int.reduceAdd, Int.reduceSub, Int.reduceMul, Int.reduceNeg, Nat.reduceAdd, Nat.reduceEqDiff, Nat.reduceBEq, ↓z_x_eq, z_g_t, z_bI_s, z_bL_s, z_bR_s, z_bV_s, Int.cast_ofNat_Int, beq_self_eq_true, Bool.and_true, Bool.true_and, Bool.and_self, Bool.or_true, Bool.true_or, Bool.false_and, Bool.and_false, Bool.false_or, Bool.or_false, Bool.not_false, Bool.not_true, if_true, if_false, ite_true, ite_false, z_up_eq, z_up_app, z_ro_eq, h7, ba, dg, zb_f]
  | succ m ih =>
    intro p n R hB h0 h1 h2 h7 h10 hn hn2
    have hL := hB.1
    have ba := p_byteAt d T (z_up G 80 R) s hB ⟨h0, h1⟩
    by_cases c : p < L
    · rw [if_pos c] at ba
      have hb := hB.2.2.2 p h0 c
      have dg := fun σ => p_mDig d (x := B p) σ ⟨by omega, by omega⟩
      cases q : y_dig (B p)
      · rw [q] at dg
        have eg : y_go y_dig B L p = p := by rw [y_go_st c, q]; rfl
        refine ⟨R, ?_, by rw [eg]; exact h7, by rw [eg, show (p - p).toNat = 0 by omega]; exact h10, fun _ _ _ => rfl⟩
        rw [e_M_nextToken_85]
        simp -implicitDefEqProofs (disch := first | assumption | omega | rfl | (simp only [z_up_eq, z_up_app, ↓reduceIte, Nat.reduceEqDiff]; omega)) only [z_lit0, z_lit1, z_lit2, z_litl, iI_add, iI_sub, iI_mul, iI_neg, iI_and, iI_or, iI_xor, iI_shl, iI_shr, iI_ushr, iI_div, iI_b, iI_c, iI_i2l, lI_l2i, lI_add, lI_sub, lI_mul, lI_neg, lI_div, lI_or, lI_and, lI_shl, lI_shr, nI_iI, lg_lt0, lg_gt0, lg_eq0, i_ne0', l_ne0', iI_lt, iI_le, iI_eq, lI_lt, lI_le, lI_eq, zb_0, zb_fit, zb_fit0, zb_fit1, i_one_zero, i_w_in, z_tb0, z_tb1, z_tb2, z_tb3, z_tb4, z_tb5, z_tb6, z_tb7, z_tb8, z_tbl, z_tu0, z_tu1, z_tu2, z_i_62, z_i_63, z_i_86, z_i_88, z_l_Y, z_ui_62, z_ui_63, z_ui_86, z_ui_88, z_ul_Y, z_sz_Y, z_sw_Y, iI_nat, z_ix_t, z_at, Int.add_zero, Int.sub_zero, Int.zero_add, Int.mul_zero, ne_eq, Bool.false_eq_true, Bool.true_eq_false, reduceCtorEq, eq_self, and_true, true_and, and_false, false_and, and_self, not_true_eq_false, not_false_eq_true, decide_true, decide_false, ↓reduceIte, Int.reduceEq, Int.reduceNe, Int.reduceLT, Int.reduceLE, Int.reduceAdd, Int.reduceSub, Int.reduceMul, Int.reduceNeg, Nat.reduceAdd, Nat.reduceEqDiff, Nat.reduceBEq, ↓z_x_eq, z_g_t, z_bI_s, z_bL_s, z_bR_s, z_bV_s, Int.cast_ofNat_Int, beq_self_eq_true, Bool.and_true, Bool.true_and, Bool.and_self, Bool.or_true, Bool.true_or, Bool.false_and, Bool.and_false, Bool.false_or, Bool.or_false, Bool.not_false, Bool.not_true, if_true, if_false, ite_true, ite_false, z_up_eq, z_up_app, z_ro_eq, h7, ba, dg, zb_f]
      · rw [q] at dg
        have q' := of_decide_eq_true q
        have eg := y_sl_go c q
        have gi := y_go_in (P := y_dig) (B := B) (L := L) (p := p + 1) (by omega)
        by_cases c2 : 99999 < n
        · have c2' : (99999 < n) = True := eq_true c2
          obtain ⟨R', e1, k1, k2, k3⟩ := ih (p + 1) n (z_ro (z_ro R 10 n) 7 (p + 1)) (by
            unfold y_tm at hB ⊢
            rw [z_up_eq, z_up_ne _ _ (show 84 ≠ 80 by omega)] at hB ⊢
            rw [z_ro_ne _ _ (by omega), z_ro_ne _ _ (by omega)]; exact hB) (by omega) (by omega) (by omega) (z_ro_eq _ _ _) (by rw [z_ro_ne _ _ (by omega), z_ro_eq]) hn hn2
          refine ⟨R', ?_, by rw [eg]; exact k1, ?_, fun k a b => by rw [k3 k a b, z_ro_ne _ _ a, z_ro_ne _ _ b]⟩
          · have r7 : z_ro R 10 n 7 = p := by rw [z_ro_ne _ _ (by omega)]; exact h7
            rw [← e1, e_M_nextToken_85]
            simp -implicitDefEqProofs (disch := first | assumption | omega | rfl | (simp only [z_up_eq, z_up_app, ↓reduceIte, Nat.reduceEqDiff]; omega)) only [z_lit0, z_lit1, z_lit2, z_litl, iI_add, iI_sub, iI_mul, iI_neg, iI_and, iI_or, iI_xor, iI_shl, iI_shr, iI_ushr, iI_div, iI_b, iI_c, iI_i2l, lI_l2i, lI_add, lI_sub, lI_mul, lI_neg, lI_div, lI_or, lI_and, lI_shl, lI_shr, nI_iI, lg_lt0, lg_gt0, lg_eq0, i_ne0', l_ne0', iI_lt, iI_le, iI_eq, lI_lt, lI_le, lI_eq, zb_0, zb_fit, zb_fit0, zb_fit1, i_one_zero, i_w_in, z_tb0, z_tb1, z_tb2, z_tb3, z_tb4, z_tb5, z_tb6, z_tb7, z_tb8, z_tbl, z_tu0, z_tu1, z_tu2, z_i_62, z_i_63, z_i_86, z_i_88, z_l_Y, z_ui_62, z_ui_63, z_ui_86, z_ui_88, z_ul_Y, z_sz_Y, z_sw_Y, iI_nat, z_ix_t, z_at, Int.add_zero, Int.sub_zero, Int.zero_add, Int.mul_zero, ne_eq, Bool.false_eq_true, Bool.true_eq_false, reduceCtorEq, eq_self, and_true, true_and, and_false, false_and, and_self, not_true_eq_false, not_false_eq_true, decide_true, decide_false, ↓reduceIte, Int.reduceEq, Int.reduceNe, Int.reduceLT, Int.reduceLE, Int.reduceAdd, Int.reduceSub, Int.reduceMul, Int.reduceNeg, Nat.reduceAdd, Nat.reduceEqDiff, Nat.reduceBEq, ↓z_x_eq, z_g_t, z_bI_s, z_bL_s, z_bR_s, z_bV_s, Int.cast_ofNat_Int, beq_self_eq_true, Bool.and_true, Bool.true_and, Bool.and_self, Bool.or_true, Bool.true_or, Bool.false_and, Bool.and_false, Bool.false_or, Bool.or_false, Bool.not_false, Bool.not_true, if_true, if_false, ite_true, ite_false, z_up_eq, z_up_app, z_ro_eq, h7, h10, ba, dg, zb_t, c2', z_up_up, r7]
          · rw [k2, eg, show (y_go y_dig B L (p + 1) - p).toNat = (y_go y_dig B L (p + 1) - (p + 1)).toNat + 1 by omega]
            show _ = y_mn B _ (p + 1) (if 99999 < n then n else 10 * n + B p - 48)
            rw [if_pos c2]
        · have c2' : (99999 < n) = False := eq_false c2
          obtain ⟨R', e1, k1, k2, k3⟩ := ih (p + 1) (10 * n + B p - 48) (z_ro (z_ro R 10 (10 * n + B p - 48)) 7 (p + 1)) (by
            unfold y_tm at hB ⊢
            rw [z_up_eq, z_up_ne _ _ (show 84 ≠ 80 by omega)] at hB ⊢
            rw [z_ro_ne _ _ (by omega), z_ro_ne _ _ (by omega)]; exact hB) (by omega) (by omega) (by omega) (z_ro_eq _ _ _) (by rw [z_ro_ne _ _ (by omega), z_ro_eq]) (by omega) (by omega)
          refine ⟨R', ?_, by rw [eg]; exact k1, ?_, fun k a b => by rw [k3 k a b, z_ro_ne _ _ a, z_ro_ne _ _ b]⟩
          · have r7 : z_ro R 10 (10 * n + B p - 48) 7 = p := by rw [z_ro_ne _ _ (by omega)]; exact h7
            rw [← e1, e_M_nextToken_85]
            simp -implicitDefEqProofs (disch := first | assumption | omega | rfl | (simp only [z_up_eq, z_up_app, ↓reduceIte, Nat.reduceEqDiff]; omega)) only [z_lit0, z_lit1, z_lit2, z_litl, iI_add, iI_sub, iI_mul, iI_neg, iI_and, iI_or, iI_xor, iI_shl, iI_shr, iI_ushr, iI_div, iI_b, iI_c, iI_i2l, lI_l2i, lI_add, lI_sub, lI_mul, lI_neg, lI_div, lI_or, lI_and, lI_shl, lI_shr, nI_iI, lg_lt0, lg_gt0, lg_eq0, i_ne0', l_ne0', iI_lt, iI_le, iI_eq, lI_lt, lI_le, lI_eq, zb_0, zb_fit, zb_fit0, zb_fit1, i_one_zero, i_w_in, z_tb0, z_tb1, z_tb2, z_tb3, z_tb4, z_tb5, z_tb6, z_tb7, z_tb8, z_tbl, z_tu0, z_tu1, z_tu2, z_i_62, z_i_63, z_i_86, z_i_88, z_l_Y, z_ui_62, z_ui_63, z_ui_86, z_ui_88, z_ul_Y, z_sz_Y, z_sw_Y, iI_nat, z_ix_t, z_at, Int.add_zero, Int.sub_zero, Int.zero_add, Int.mul_zero, ne_eq, Bool.false_eq_true, Bool.true_eq_false, reduceCtorEq, eq_self, and_true, true_and, and_false, false_and, and_self, not_true_eq_false, not_false_eq_true, decide_true, decide_false, ↓reduceIte, Int.reduceEq, Int.reduceNe, Int.reduceLT, Int.reduceLE, Int.reduceAdd, Int.reduceSub, Int.reduceMul, Int.reduceNeg, Nat.reduceAdd, Nat.reduceEqDiff, Nat.reduceBEq, ↓z_x_eq, z_g_t, z_bI_s, z_bL_s, z_bR_s, z_bV_s, Int.cast_ofNat_Int, beq_self_eq_true, Bool.and_true, Bool.true_and, Bool.and_self, Bool.or_true, Bool.true_or, Bool.false_and, Bool.and_false, Bool.false_or, Bool.or_false, Bool.not_false, Bool.not_true, if_true, if_false, ite_true, ite_false, z_up_eq, z_up_app, z_ro_eq, h7, h10, ba, dg, zb_t, c2', z_up_up, r7]
          · rw [k2, eg, show (y_go y_dig B L (p + 1) - p).toNat = (y_go y_dig B L (p + 1) - (p + 1)).toNat + 1 by omega]
            show _ = y_mn B _ (p + 1) (if 99999 < n then n else 10 * n + B p - 48)
            rw [if_neg c2]
    · rw [if_neg c] at ba
      have dg := fun σ => p_mDig d (x := -1) σ ⟨by omega, by omega⟩
      rw [show y_dig (-1) = false from rfl] at dg
      have eg : y_go y_dig B L p = p := y_go_end (by omega)
      refine ⟨R, ?_, by rw [eg]; exact h7, by rw [eg, show (p - p).toNat = 0 by omega]; exact h10, fun _ _ _ => rfl⟩
      rw [e_M_nextToken_85]
      simp -implicitDefEqProofs (disch := first | assumption | omega | rfl | (simp only [z_up_eq, z_up_app, ↓reduceIte, Nat.reduceEqDiff]; omega)) only [z_lit0, z_lit1, z_lit2, z_litl, iI_add, iI_sub, iI_mul, iI_neg, iI_and, iI_or, iI_xor, iI_shl, iI_shr, iI_ushr, iI_div, iI_b, iI_c, iI_i2l, lI_l2i, lI_add, lI_sub, lI_mul, lI_neg, lI_div, lI_or, lI_and, lI_shl, lI_shr, nI_iI, lg_lt0, lg_gt0, lg_eq0, i_ne0', l_ne0', iI_lt, iI_le, iI_eq, lI_lt, lI_le, lI_eq, zb_0, zb_fit, zb_fit0, zb_fit1, i_one_zero, i_w_in, z_tb0, z_tb1, z_tb2, z_tb3, z_tb4, z_tb5, z_tb6, z_tb7, z_tb8, z_tbl, z_tu0, z_tu1, z_tu2, z_i_62, z_i_63, z_i_86, z_i_88, z_l_Y, z_ui_62, z_ui_63, z_ui_86, z_ui_88, z_ul_Y, z_sz_Y, z_sw_Y, iI_nat, z_ix_t, z_at, Int.add_zero, Int.sub_zero, Int.zero_add, Int.mul_zero, ne_eq, Bool.false_eq_true, Bool.true_eq_false, reduceCtorEq, eq_self, and_true, true_and, and_false, false_and, and_self, not_true_eq_false, not_false_eq_true, decide_true, decide_false, ↓reduceIte, Int.reduceEq, Int.reduceNe, Int.reduceLT, Int.reduceLE, Int.reduceAdd, Int.reduceSub, Int.reduceMul, Int.reduceNeg, Nat.reduceAdd, Nat.reduceEqDiff, Nat.reduceBEq, ↓z_x_eq, z_g_t, z_bI_s, z_bL_s, z_bR_s, z_bV_s, Int.cast_ofNat_Int, beq_self_eq_true, Bool.and_true, Bool.true_and, Bool.and_self, Bool.or_true, Bool.true_or, Bool.false_and, Bool.and_false, Bool.false_or, Bool.or_false, Bool.not_false, Bool.not_true, if_true, if_false, ite_true, ite_false, z_up_eq, z_up_app, z_ro_eq, h7, ba, dg, zb_f]
theorem y_ps_in {w b : Int} (h : 0 ≤ w ∧ w < 9223372036854775808) (hb : 0 ≤ b ∧ b ≤ 255) : 0 ≤ y_ps w b ∧ y_ps w b < 9223372036854775808 := by
  unfold y_ps; split <;> omega
theorem p_nt_168 (d : Nat) (T : ZT) (G : ZG) {B : Int → Int} {L : Int} : ∀ (m : Nat) (p w : Int) (R : Int → Int) (s : ZG × ZG), y_tm (z_up G 80 R) B L → 0 ≤ p → p ≤ L → L ≤ p + m → R 7 = p → s.2 80 11 = w → 0 ≤ w ∧ w < 9223372036854775808 → ∃ R' s', z_w d_M_nextToken (z_call (d + 1)) 168 [some (vr 80), none] [] (z_Y T (z_up G 80 R) s) = some (vi (iI 0), z_Y T (z_up G 80 R') s') ∧ R' 7 = y_go y_let B L p ∧ s'.2 80 11 = y_pk (y_sl B (y_go y_let B L p - p).toNat p) w ∧ ∀ k, k ≠ 7 → R' k = R k := by
  intro m
  induction m with
  | zero =>
    intro p w R s hB h0 h1 h2 h7 hw hwi
    have hL := hB.1
    have ba := p_byteAt d T (z_up G 80 R) s hB ⟨h0, h1⟩
    rw [if_neg (show ¬ p < L by omega)] at ba
    have dg := fun σ => p_mLet d (x := -1) σ ⟨by omega, by omega⟩
    rw [show y_let (-1) = false from rfl] at dg
    have eg : y_go y_let B L p = p := y_go_end (by omega)
    refine ⟨R, s, ?_, by rw [eg]; exact h7, by rw [eg, show (p - p).toNat = 0 by omega]; exact hw, fun _ _ => rfl⟩
    rw [e_M_nextToken_168]
    simp -implicitDefEqProofs (disch := first | assumption | omega | rfl | (simp only [z_up_eq, z_up_app, ↓reduceIte, Nat.reduceEqDiff]; omega)) only [z_lit0, z_lit1, z_lit2, z_litl, iI_add, iI_sub, iI_mul, iI_neg, iI_and, iI_or, iI_xor, iI_shl, iI_shr, iI_ushr, iI_div, iI_b, iI_c, iI_i2l, lI_l2i, lI_add, lI_sub, lI_mul, lI_neg, lI_div, lI_or, lI_and, lI_shl, lI_shr, nI_iI, lg_lt0, lg_gt0, lg_eq0, i_ne0', l_ne0', iI_lt, iI_le, iI_eq, lI_lt, lI_le, lI_eq, zb_0, zb_fit, zb_fit0, zb_fit1, i_one_zero, i_w_in, z_tb0, z_tb1, z_tb2, z_tb3, z_tb4, z_tb5, z_tb6, z_tb7, z_tb8, z_tbl, z_tu0, z_tu1, z_tu2, z_i_62, z_i_63, z_i_86, z_i_88, z_l_Y, z_ui_62, z_ui_63, z_ui_86, z_ui_88, z_ul_Y, z_sz_Y, z_sw_Y, iI_nat, z_ix_t, z_at, Int.add_zero, Int.sub_zero, Int.zero_add, Int.mul_zero, ne_eq, Bool.false_eq_true, Bool.true_eq_false, reduceCtorEq, eq_self, and_true, true_and, and_false, false_and, and_self, not_true_eq_false, not_false_eq_true, decide_true, decide_false, ↓reduceIte, Int.reduceEq, Int.reduceNe, Int.reduceLT, Int.reduceLE, Int.reduceAdd, Int.reduceSub, Int.reduceMul, Int.reduceNeg, Nat.reduceAdd, Nat.reduceEqDiff, Nat.reduceBEq, ↓z_x_eq, z_g_t, z_bI_s, z_bL_s, z_bR_s, z_bV_s, Int.cast_ofNat_Int, beq_self_eq_true, Bool.and_true, Bool.true_and, Bool.and_self, Bool.or_true, Bool.true_or, Bool.false_and, Bool.and_false, Bool.false_or, Bool.or_false, Bool.not_false, Bool.not_true, if_true, if_false, ite_true, ite_false, z_up_eq, z_up_app, z_ro_eq, h7, ba, dg, zb_f]
  | succ m ih =>
    intro p w R s hB h0 h1 h2 h7 hw hwi
    have hL := hB.1
    have ba := p_byteAt d T (z_up G 80 R) s hB ⟨h0, h1⟩
    by_cases c : p < L
    · rw [if_pos c] at ba
      have hb := hB.2.2.2 p h0 c
      have dg := fun σ => p_mLet d (x := B p) σ ⟨by omega, by omega⟩
      cases q : y_let (B p)
      · rw [q] at dg
        have eg : y_go y_let B L p = p := by rw [y_go_st c, q]; rfl
        refine ⟨R, s, ?_, by rw [eg]; exact h7, by rw [eg, show (p - p).toNat = 0 by omega]; exact hw, fun _ _ => rfl⟩
        rw [e_M_nextToken_168]
        simp -implicitDefEqProofs (disch := first | assumption | omega | rfl | (simp only [z_up_eq, z_up_app, ↓reduceIte, Nat.reduceEqDiff]; omega)) only [z_lit0, z_lit1, z_lit2, z_litl, iI_add, iI_sub, iI_mul, iI_neg, iI_and, iI_or, iI_xor, iI_shl, iI_shr, iI_ushr, iI_div, iI_b, iI_c, iI_i2l, lI_l2i, lI_add, lI_sub, lI_mul, lI_neg, lI_div, lI_or, lI_and, lI_shl, lI_shr, nI_iI, lg_lt0, lg_gt0, lg_eq0, i_ne0', l_ne0', iI_lt, iI_le, iI_eq, lI_lt, lI_le, lI_eq, zb_0, zb_fit, zb_fit0, zb_fit1, i_one_zero, i_w_in, z_tb0, z_tb1, z_tb2, z_tb3, z_tb4, z_tb5, z_tb6, z_tb7, z_tb8, z_tbl, z_tu0, z_tu1, z_tu2, z_i_62, z_i_63, z_i_86, z_i_88, z_l_Y, z_ui_62, z_ui_63, z_ui_86, z_ui_88, z_ul_Y, z_sz_Y, z_sw_Y, iI_nat, z_ix_t, z_at, Int.add_zero, Int.sub_zero, Int.zero_add, Int.mul_zero, ne_eq, Bool.false_eq_true, Bool.true_eq_false, reduceCtorEq, eq_self, and_true, true_and, and_false, false_and, and_self, not_true_eq_false, not_false_eq_true, decide_true, decide_false, ↓reduceIte, Int.reduceEq, Int.reduceNe, Int.reduceLT, Int.reduceLE, Int.reduceAdd, Int.reduceSub, Int.reduceMul, Int.reduceNeg, Nat.reduceAdd, Nat.reduceEqDiff, Nat.reduceBEq, ↓z_x_eq, z_g_t, z_bI_s, z_bL_s, z_bR_s, z_bV_s, Int.cast_ofNat_Int, beq_self_eq_true, Bool.and_true, Bool.true_and, Bool.and_self, Bool.or_true, Bool.true_or, Bool.false_and, Bool.and_false, Bool.false_or, Bool.or_false, Bool.not_false, Bool.not_true, if_true, if_false, ite_true, ite_false, z_up_eq, z_up_app, z_ro_eq, h7, ba, dg, zb_f]
      · rw [q] at dg
        have eg := y_sl_go c q
        have gi := y_go_in (P := y_let) (B := B) (L := L) (p := p + 1) (by omega)
        have sh := l_shr48' hwi
        obtain ⟨R', s', e1, k1, k2, k3⟩ := ih (p + 1) (y_ps w (B p)) (z_ro R 7 (p + 1)) (s.1, z_up s.2 80 (z_ro (s.2 80) 11 (y_ps w (B p)))) (by
          unfold y_tm at hB ⊢
          rw [z_up_eq, z_up_ne _ _ (show 84 ≠ 80 by omega)] at hB ⊢
          rw [z_ro_ne _ _ (by omega)]; exact hB) (by omega) (by omega) (by omega) (z_ro_eq _ _ _) (by show z_up s.2 80 (z_ro (s.2 80) 11 (y_ps w (B p))) 80 11 = _; rw [z_up_eq, z_ro_eq]) (y_ps_in hwi hb)
        refine ⟨R', s', ?_, by rw [eg]; exact k1, ?_, fun k a => by rw [k3 k a, z_ro_ne _ _ a]⟩
        · rw [← e1, e_M_nextToken_168]
          unfold y_ps
          by_cases c2 : w < 281474976710656
          · rw [if_pos c2]
            have c2' : (w / 281474976710656 = 0) = True := eq_true (by omega)
            have si : l_in (w / 281474976710656) := ⟨by omega, by omega⟩
            have pk := l_pk' (w := w) (b := B p) ⟨hwi.1, c2⟩ (by omega)
            simp -implicitDefEqProofs (disch := first | assumption | omega | rfl | (simp only [z_up_eq, z_up_app, ↓reduceIte, Nat.reduceEqDiff]; omega)) only [z_lit0, z_lit1, z_lit2, z_litl, iI_add, iI_sub, iI_mul, iI_neg, iI_and, iI_or, iI_xor, iI_shl, iI_shr, iI_ushr, iI_div, iI_b, iI_c, iI_i2l, lI_l2i, lI_add, lI_sub, lI_mul, lI_neg, lI_div, lI_or, lI_and, lI_shl, lI_shr, nI_iI, lg_lt0, lg_gt0, lg_eq0, i_ne0', l_ne0', iI_lt, iI_le, iI_eq, lI_lt, lI_le, lI_eq, zb_0, zb_fit, zb_fit0, zb_fit1, i_one_zero, i_w_in, z_tb0, z_tb1, z_tb2, z_tb3, z_tb4, z_tb5, z_tb6, z_tb7, z_tb8, z_tbl, z_tu0, z_tu1, z_tu2, z_i_62, z_i_63, z_i_86, z_i_88, z_l_Y, z_ui_62, z_ui_63, z_ui_86, z_ui_88, z_ul_Y, z_sz_Y, z_sw_Y, iI_nat, z_ix_t, z_at, Int.add_zero, Int.sub_zero, Int.zero_add, Int.mul_zero, ne_eq, Bool.false_eq_true, Bool.true_eq_false, reduceCtorEq, eq_self, and_true, true_and, and_false, false_and, and_self, not_true_eq_false, not_false_eq_true, decide_true, decide_false, ↓reduceIte, Int.reduceEq, Int.reduceNe, Int.reduceLT, Int.reduceLE, Int.reduceAdd, Int.reduceSub, Int.reduceMul, Int.reduceNeg, Nat.reduceAdd, Nat.reduceEqDiff, Nat.reduceBEq, ↓z_x_eq, z_g_t, z_bI_s, z_bL_s, z_bR_s, z_bV_s, Int.cast_ofNat_Int, beq_self_eq_true, Bool.and_true, Bool.true_and, Bool.and_self, Bool.or_true, Bool.true_or, Bool.false_and, Bool.and_false, Bool.false_or, Bool.or_false, Bool.not_false, Bool.not_true, if_true, if_false, ite_true, ite_false, z_up_eq, z_up_app, z_ro_eq, h7, hw, ba, dg, zb_t, sh, c2', pk, z_up_up]
          · rw [if_neg c2]
            have c2' : (w / 281474976710656 = 0) = False := eq_false (by omega)
            have si : l_in (w / 281474976710656) := ⟨by omega, by omega⟩
            simp -implicitDefEqProofs (disch := first | assumption | omega | rfl | (simp only [z_up_eq, z_up_app, ↓reduceIte, Nat.reduceEqDiff]; omega)) only [z_lit0, z_lit1, z_lit2, z_litl, iI_add, iI_sub, iI_mul, iI_neg, iI_and, iI_or, iI_xor, iI_shl, iI_shr, iI_ushr, iI_div, iI_b, iI_c, iI_i2l, lI_l2i, lI_add, lI_sub, lI_mul, lI_neg, lI_div, lI_or, lI_and, lI_shl, lI_shr, nI_iI, lg_lt0, lg_gt0, lg_eq0, i_ne0', l_ne0', iI_lt, iI_le, iI_eq, lI_lt, lI_le, lI_eq, zb_0, zb_fit, zb_fit0, zb_fit1, i_one_zero, i_w_in, z_tb0, z_tb1, z_tb2, z_tb3, z_tb4, z_tb5, z_tb6, z_tb7, z_tb8, z_tbl, z_tu0, z_tu1, z_tu2, z_i_62, z_i_63, z_i_86, z_i_88, z_l_Y, z_ui_62, z_ui_63, z_ui_86, z_ui_88, z_ul_Y, z_sz_Y, z_sw_Y, iI_nat, z_ix_t, z_at, Int.add_zero, Int.sub_zero, Int.zero_add, Int.mul_zero, ne_eq, Bool.false_eq_true, Bool.true_eq_false, reduceCtorEq, eq_self, and_true, true_and, and_false, false_and, and_self, not_true_eq_false, not_false_eq_true, decide_true, decide_false, ↓reduceIte, Int.reduceEq, Int.reduceNe, Int.reduceLT, Int.reduceLE, Int.reduceAdd, Int.reduceSub, Int.reduceMul, Int.reduceNeg, Nat.reduceAdd, Nat.reduceEqDiff, Nat.reduceBEq, ↓z_x_eq, z_g_t, z_bI_s, z_bL_s, z_bR_s, z_bV_s, Int.cast_ofNat_Int, beq_self_eq_true, Bool.and_true, Bool.true_and, Bool.and_self, Bool.or_true, Bool.true_or, Bool.false_and, Bool.and_false, Bool.false_or, Bool.or_false, Bool.not_false, Bool.not_true, if_true, if_false, ite_true, ite_false, z_up_eq, z_up_app, z_ro_eq, h7, hw, ba, dg, zb_t, sh, c2', z_up_up]
        · rw [k2, eg, show (y_go y_let B L (p + 1) - p).toNat = (y_go y_let B L (p + 1) - (p + 1)).toNat + 1 by omega]
          rfl
    · rw [if_neg c] at ba
      have dg := fun σ => p_mLet d (x := -1) σ ⟨by omega, by omega⟩
      rw [show y_let (-1) = false from rfl] at dg
      have eg : y_go y_let B L p = p := y_go_end (by omega)
      refine ⟨R, s, ?_, by rw [eg]; exact h7, by rw [eg, show (p - p).toNat = 0 by omega]; exact hw, fun _ _ => rfl⟩
      rw [e_M_nextToken_168]
      simp -implicitDefEqProofs (disch := first | assumption | omega | rfl | (simp only [z_up_eq, z_up_app, ↓reduceIte, Nat.reduceEqDiff]; omega)) only [z_lit0, z_lit1, z_lit2, z_litl, iI_add, iI_sub, iI_mul, iI_neg, iI_and, iI_or, iI_xor, iI_shl, iI_shr, iI_ushr, iI_div, iI_b, iI_c, iI_i2l, lI_l2i, lI_add, lI_sub, lI_mul, lI_neg, lI_div, lI_or, lI_and, lI_shl, lI_shr, nI_iI, lg_lt0, lg_gt0, lg_eq0, i_ne0', l_ne0', iI_lt, iI_le, iI_eq, lI_lt, lI_le, lI_eq, zb_0, zb_fit, zb_fit0, zb_fit1, i_one_zero, i_w_in, z_tb0, z_tb1, z_tb2, z_tb3, z_tb4, z_tb5, z_tb6, z_tb7, z_tb8, z_tbl, z_tu0, z_tu1, z_tu2, z_i_62, z_i_63, z_i_86, z_i_88, z_l_Y, z_ui_62, z_ui_63, z_ui_86, z_ui_88, z_ul_Y, z_sz_Y, z_sw_Y, iI_nat, z_ix_t, z_at, Int.add_zero, Int.sub_zero, Int.zero_add, Int.mul_zero, ne_eq, Bool.false_eq_true, Bool.true_eq_false, reduceCtorEq, eq_self, and_true, true_and, and_false, false_and, and_self, not_true_eq_false, not_false_eq_true, decide_true, decide_false, ↓reduceIte, Int.reduceEq, Int.reduceNe, Int.reduceLT, Int.reduceLE, Int.reduceAdd, Int.reduceSub, Int.reduceMul, Int.reduceNeg, Nat.reduceAdd, Nat.reduceEqDiff, Nat.reduceBEq, ↓z_x_eq, z_g_t, z_bI_s, z_bL_s, z_bR_s, z_bV_s, Int.cast_ofNat_Int, beq_self_eq_true, Bool.and_true, Bool.true_and, Bool.and_self, Bool.or_true, Bool.true_or, Bool.false_and, Bool.and_false, Bool.false_or, Bool.or_false, Bool.not_false, Bool.not_true, if_true, if_false, ite_true, ite_false, z_up_eq, z_up_app, z_ro_eq, h7, ba, dg, zb_f]
theorem nt_0 (d : Nat) (σ : ZM) : z_call (d + 1) 80 [vr 80] σ = z_w d_M_nextToken (z_call d) 0 [some (vr 80), none] [] σ := by rw [e_M_nextToken, e_M_nextToken_0]
theorem y_tm_up {G : ZG} {B : Int → Int} {L : Int} {R R' : Int → Int} (h : y_tm (z_up G 80 R) B L) (e : R' 4 = R 4) : y_tm (z_up G 80 R') B L := by
  unfold y_tm at h ⊢
  rw [z_up_eq, z_up_ne _ _ (show 84 ≠ 80 by omega)] at h ⊢
  rw [e]; exact h
/-- at a token -/
theorem p_nt_at (d : Nat) (T : ZT) (G : ZG) (s : ZG × ZG) {B : Int → Int} {L p : Int} {R : Int → Int} (hB : y_tm (z_up G 80 R) B L) (hp : 0 ≤ p ∧ p ≤ L) (h7 : R 7 = p) (hnb : p < L → y_bl (B p) = false) : ∃ R' s', z_w d_M_nextToken (z_call (d + 1)) 0 [some (vr 80), none] [] (z_Y T (z_up G 80 R) s) = some (vi (iI 0), z_Y T (z_up G 80 R') s') ∧ y_mt R' (s'.2 80 11) B L p ∧ ∀ k, ¬ (7 ≤ k ∧ k ≤ 10) → R' k = R k := by
  have hL := hB.1
  have ba := fun R' (h4 : R' 4 = R 4) => p_byteAt d T (z_up G 80 R') s (y_tm_up hB h4) hp
  by_cases c : p < L
  · rw [if_pos c] at ba
    have hb := hB.2.2.2 p hp.1 c
    have nb := of_decide_eq_false (hnb c)
    have n32 : (B p = 32) = False := eq_false (fun z => nb (Or.inl z))
    have n10 : (B p = 10) = False := eq_false (fun z => nb (Or.inr z))
    have ng : (B p < 0) = False := eq_false (by omega)
    have dg := fun σ => p_mDig d (x := B p) σ ⟨by omega, by omega⟩
    have lt := fun σ => p_mLet d (x := B p) σ ⟨by omega, by omega⟩
    have sg := fun σ => p_mSgn d (x := B p) σ hb
    have b0 := ba R rfl
    have b1 := ba (z_ro R 8 p) (z_ro_ne _ _ (by omega))
    cases qd : y_dig (B p)
    · rw [qd] at dg
      cases ql : y_let (B p)
      · rw [ql] at lt
        have ee : y_end B L p = if (B p = 60 ∨ B p = 62) ∧ p + 1 < L ∧ B (p + 1) = 61 then p + 1 + 1 else p + 1 := by
          unfold y_end
          rw [ql, qd, if_neg (by decide), if_neg (by decide)]
        have key : ∀ tk : Int, (B p = 60 ∨ B p = 62 → 0 ≤ tk ∧ tk ≤ 255) → ∃ R', z_w d_M_nextToken (z_call (d + 1)) 272 [some (vr 80), some (vi (iI (B p)))] [] (z_Y T (z_up G 80 (z_ro (z_ro (z_ro R 8 p) 9 tk) 7 (p + 1))) s) = some (vi (iI 0), z_Y T (z_up G 80 R') s) ∧ (R' 7 = if p + 1 < L ∧ B (p + 1) = 61 then p + 1 + 1 else p + 1) ∧ (R' 9 = if p + 1 < L ∧ B (p + 1) = 61 then (if B p = 60 then 4 else 5) else tk) ∧ ∀ k, k ≠ 7 → k ≠ 9 → R' k = z_ro R 8 p k := by
          intro tk htk
          have b2 := p_byteAt d T (z_up G 80 (z_ro (z_ro (z_ro R 8 p) 9 tk) 7 (p + 1))) s (y_tm_up hB (by rw [z_ro_ne _ _ (by omega), z_ro_ne _ _ (by omega), z_ro_ne _ _ (by omega)])) (p := p + 1) (by omega)
          have r7 : z_ro (z_ro (z_ro (z_ro R 8 p) 9 tk) 7 (p + 1)) 9 4 7 = p + 1 := by rw [z_ro_ne _ _ (by omega), z_ro_eq]
          have r7' : z_ro (z_ro (z_ro (z_ro R 8 p) 9 tk) 7 (p + 1)) 9 5 7 = p + 1 := by rw [z_ro_ne _ _ (by omega), z_ro_eq]
          have r70 : z_ro (z_ro (z_ro R 8 p) 9 tk) 7 (p + 1) 7 = p + 1 := z_ro_eq _ _ _
          by_cases c2 : p + 1 < L
          · rw [if_pos c2] at b2
            have hb2 := hB.2.2.2 (p + 1) (by omega) c2
            by_cases c3 : B (p + 1) = 61
            · have c3' : (B (p + 1) = 61) = True := eq_true c3
              by_cases c4 : B p = 60
              · have c4' : (B p = 60) = True := eq_true c4
                refine ⟨z_ro (z_ro (z_ro (z_ro (z_ro R 8 p) 9 tk) 7 (p + 1)) 9 4) 7 (p + 1 + 1), ?_, by rw [if_pos ⟨c2, c3⟩, z_ro_eq], by rw [if_pos ⟨c2, c3⟩, if_pos c4, z_ro_ne _ _ (by omega), z_ro_eq], fun k a b => by rw [z_ro_ne _ _ a, z_ro_ne _ _ b, z_ro_ne _ _ a, z_ro_ne _ _ b]⟩
                rw [e_M_nextToken_272]
                simp -implicitDefEqProofs (disch := first | assumption | omega | rfl | (simp only [z_up_eq, z_up_app, ↓reduceIte, Nat.reduceEqDiff]; omega)) only [z_lit0, z_lit1, z_lit2, z_litl, iI_add, iI_sub, iI_mul, iI_neg, iI_and, iI_or, iI_xor, iI_shl, iI_shr, iI_ushr, iI_div, iI_b, iI_c, iI_i2l, lI_l2i, lI_add, lI_sub, lI_mul, lI_neg, lI_div, lI_or, lI_and, lI_shl, lI_shr, nI_iI, lg_lt0, lg_gt0, lg_eq0, i_ne0', l_ne0', iI_lt, iI_le, iI_eq, lI_lt, lI_le, lI_eq, zb_0, zb_fit, zb_fit0, zb_fit1, i_one_zero, i_w_in, z_tb0, z_tb1, z_tb2, z_tb3, z_tb4, z_tb5, z_tb6, z_tb7, z_tb8, z_tbl, z_tu0, z_tu1, z_tu2, z_i_62, z_i_63, z_i_86, z_i_88, z_l_Y, z_ui_62, z_ui_63, z_ui_86, z_ui_88, z_ul_Y, z_sz_Y, z_sw_Y, iI_nat, z_ix_t, z_at, Int.add_zero, Int.sub_zero, Int.zero_add, Int.mul_zero, ne_eq, Bool.false_eq_true, Bool.true_eq_false, reduceCtorEq, eq_self, and_true, true_and, and_false, false_and, and_self, not_true_eq_false, not_false_eq_true, decide_true, decide_false, ↓reduceIte, Int.reduceEq, Int.reduceNe, Int.reduceLT, Int.reduceLE, Int.reduceAdd, Int.reduceSub, Int.reduceMul, Int.reduceNeg, Nat.reduceAdd, Nat.reduceEqDiff, Nat.reduceBEq, ↓z_x_eq, z_g_t, z_bI_s, z_bL_s, z_bR_s, z_bV_s, Int.cast_ofNat_Int, beq_self_eq_true, Bool.and_true, Bool.true_and, Bool.and_self, Bool.or_true, Bool.true_or, Bool.false_and, Bool.and_false, Bool.false_or, Bool.or_false, Bool.not_false, Bool.not_true, if_true, if_false, ite_true, ite_false, z_up_eq, z_up_app, z_ro_eq, r70, b2, c3', c4', r7, z_up_up]
              · have c4' : (B p = 60) = False := eq_false c4
                refine ⟨z_ro (z_ro (z_ro (z_ro (z_ro R 8 p) 9 tk) 7 (p + 1)) 9 5) 7 (p + 1 + 1), ?_, by rw [if_pos ⟨c2, c3⟩, z_ro_eq], by rw [if_pos ⟨c2, c3⟩, if_neg c4, z_ro_ne _ _ (by omega), z_ro_eq], fun k a b => by rw [z_ro_ne _ _ a, z_ro_ne _ _ b, z_ro_ne _ _ a, z_ro_ne _ _ b]⟩
                rw [e_M_nextToken_272]
                simp -implicitDefEqProofs (disch := first | assumption | omega | rfl | (simp only [z_up_eq, z_up_app, ↓reduceIte, Nat.reduceEqDiff]; omega)) only [z_lit0, z_lit1, z_lit2, z_litl, iI_add, iI_sub, iI_mul, iI_neg, iI_and, iI_or, iI_xor, iI_shl, iI_shr, iI_ushr, iI_div, iI_b, iI_c, iI_i2l, lI_l2i, lI_add, lI_sub, lI_mul, lI_neg, lI_div, lI_or, lI_and, lI_shl, lI_shr, nI_iI, lg_lt0, lg_gt0, lg_eq0, i_ne0', l_ne0', iI_lt, iI_le, iI_eq, lI_lt, lI_le, lI_eq, zb_0, zb_fit, zb_fit0, zb_fit1, i_one_zero, i_w_in, z_tb0, z_tb1, z_tb2, z_tb3, z_tb4, z_tb5, z_tb6, z_tb7, z_tb8, z_tbl, z_tu0, z_tu1, z_tu2, z_i_62, z_i_63, z_i_86, z_i_88, z_l_Y, z_ui_62, z_ui_63, z_ui_86, z_ui_88, z_ul_Y, z_sz_Y, z_sw_Y, iI_nat, z_ix_t, z_at, Int.add_zero, Int.sub_zero, Int.zero_add, Int.mul_zero, ne_eq, Bool.false_eq_true, Bool.true_eq_false, reduceCtorEq, eq_self, and_true, true_and, and_false, false_and, and_self, not_true_eq_false, not_false_eq_true, decide_true, decide_false, ↓reduceIte, Int.reduceEq, Int.reduceNe, Int.reduceLT, Int.reduceLE, Int.reduceAdd, Int.reduceSub, Int.reduceMul, Int.reduceNeg, Nat.reduceAdd, Nat.reduceEqDiff, Nat.reduceBEq, ↓z_x_eq, z_g_t, z_bI_s, z_bL_s, z_bR_s, z_bV_s, Int.cast_ofNat_Int, beq_self_eq_true, Bool.and_true, Bool.true_and, Bool.and_self, Bool.or_true, Bool.true_or, Bool.false_and, Bool.and_false, Bool.false_or, Bool.or_false, Bool.not_false, Bool.not_true, if_true, if_false, ite_true, ite_false, z_up_eq, z_up_app, z_ro_eq, r70, b2, c3', c4', r7', z_up_up]
            · have c3' : (B (p + 1) = 61) = False := eq_false c3
              refine ⟨_, ?_, by rw [if_neg (fun z => c3 z.2)]; exact r70, by rw [if_neg (fun z => c3 z.2), z_ro_ne _ _ (by omega), z_ro_eq], fun k a b => by rw [z_ro_ne _ _ a, z_ro_ne _ _ b]⟩
              rw [e_M_nextToken_272]
              simp -implicitDefEqProofs (disch := first | assumption | omega | rfl | (simp only [z_up_eq, z_up_app, ↓reduceIte, Nat.reduceEqDiff]; omega)) only [z_lit0, z_lit1, z_lit2, z_litl, iI_add, iI_sub, iI_mul, iI_neg, iI_and, iI_or, iI_xor, iI_shl, iI_shr, iI_ushr, iI_div, iI_b, iI_c, iI_i2l, lI_l2i, lI_add, lI_sub, lI_mul, lI_neg, lI_div, lI_or, lI_and, lI_shl, lI_shr, nI_iI, lg_lt0, lg_gt0, lg_eq0, i_ne0', l_ne0', iI_lt, iI_le, iI_eq, lI_lt, lI_le, lI_eq, zb_0, zb_fit, zb_fit0, zb_fit1, i_one_zero, i_w_in, z_tb0, z_tb1, z_tb2, z_tb3, z_tb4, z_tb5, z_tb6, z_tb7, z_tb8, z_tbl, z_tu0, z_tu1, z_tu2, z_i_62, z_i_63, z_i_86, z_i_88, z_l_Y, z_ui_62, z_ui_63, z_ui_86, z_ui_88, z_ul_Y, z_sz_Y, z_sw_Y, iI_nat, z_ix_t, z_at, Int.add_zero, Int.sub_zero, Int.zero_add, Int.mul_zero, ne_eq, Bool.false_eq_true, Bool.true_eq_false, reduceCtorEq, eq_self, and_true, true_and, and_false, false_and, and_self, not_true_eq_false, not_false_eq_true, decide_true, decide_false, ↓reduceIte, Int.reduceEq, Int.reduceNe, Int.reduceLT, Int.reduceLE, Int.reduceAdd, Int.reduceSub, Int.reduceMul, Int.reduceNeg, Nat.reduceAdd, Nat.reduceEqDiff, Nat.reduceBEq, ↓z_x_eq, z_g_t, z_bI_s, z_bL_s, z_bR_s, z_bV_s, Int.cast_ofNat_Int, beq_self_eq_true, Bool.and_true, Bool.true_and, Bool.and_self, Bool.or_true, Bool.true_or, Bool.false_and, Bool.and_false, Bool.false_or, Bool.or_false, Bool.not_false, Bool.not_true, if_true, if_false, ite_true, ite_false, z_up_eq, z_up_app, z_ro_eq, r70, b2, c3']
          · rw [if_neg c2] at b2
            refine ⟨_, ?_, by rw [if_neg (fun z => c2 z.1)]; exact r70, by rw [if_neg (fun z => c2 z.1), z_ro_ne _ _ (by omega), z_ro_eq], fun k a b => by rw [z_ro_ne _ _ a, z_ro_ne _ _ b]⟩
            rw [e_M_nextToken_272]
            simp -implicitDefEqProofs (disch := first | assumption | omega | rfl | (simp only [z_up_eq, z_up_app, ↓reduceIte, Nat.reduceEqDiff]; omega)) only [z_lit0, z_lit1, z_lit2, z_litl, iI_add, iI_sub, iI_mul, iI_neg, iI_and, iI_or, iI_xor, iI_shl, iI_shr, iI_ushr, iI_div, iI_b, iI_c, iI_i2l, lI_l2i, lI_add, lI_sub, lI_mul, lI_neg, lI_div, lI_or, lI_and, lI_shl, lI_shr, nI_iI, lg_lt0, lg_gt0, lg_eq0, i_ne0', l_ne0', iI_lt, iI_le, iI_eq, lI_lt, lI_le, lI_eq, zb_0, zb_fit, zb_fit0, zb_fit1, i_one_zero, i_w_in, z_tb0, z_tb1, z_tb2, z_tb3, z_tb4, z_tb5, z_tb6, z_tb7, z_tb8, z_tbl, z_tu0, z_tu1, z_tu2, z_i_62, z_i_63, z_i_86, z_i_88, z_l_Y, z_ui_62, z_ui_63, z_ui_86, z_ui_88, z_ul_Y, z_sz_Y, z_sw_Y, iI_nat, z_ix_t, z_at, Int.add_zero, Int.sub_zero, Int.zero_add, Int.mul_zero, ne_eq, Bool.false_eq_true, Bool.true_eq_false, reduceCtorEq, eq_self, and_true, true_and, and_false, false_and, and_self, not_true_eq_false, not_false_eq_true, decide_true, decide_false, ↓reduceIte, Int.reduceEq, Int.reduceNe, Int.reduceLT, Int.reduceLE, Int.reduceAdd, Int.reduceSub, Int.reduceMul, Int.reduceNeg, Nat.reduceAdd, Nat.reduceEqDiff, Nat.reduceBEq, ↓z_x_eq, z_g_t, z_bI_s, z_bL_s, z_bR_s, z_bV_s, Int.cast_ofNat_Int, beq_self_eq_true, Bool.and_true, Bool.true_and, Bool.and_self, Bool.or_true, Bool.true_or, Bool.false_and, Bool.and_false, Bool.false_or, Bool.or_false, Bool.not_false, Bool.not_true, if_true, if_false, ite_true, ite_false, z_up_eq, z_up_app, z_ro_eq, r70, b2]
        have fin : ∀ (tk : Int) (R' : Int → Int), tk = (if 0 ≤ y_si y_sg 0 (B p) then B p else 3) → (R' 7 = if (B p = 60 ∨ B p = 62) ∧ p + 1 < L ∧ B (p + 1) = 61 then p + 1 + 1 else p + 1) → (R' 9 = if (B p = 60 ∨ B p = 62) ∧ p + 1 < L ∧ B (p + 1) = 61 then (if B p = 60 then 4 else 5) else tk) → (∀ k, k ≠ 7 → k ≠ 9 → R' k = z_ro R 8 p k) → ∀ w, y_mt R' w B L p ∧ ∀ k, ¬ (7 ≤ k ∧ k ≤ 10) → R' k = R k := by
          intro tk R' htk k7 k9 ko w
          refine ⟨⟨by rw [ko 8 (by omega) (by omega), z_ro_eq], by rw [k7, if_pos c, ee], ?_, (fun _ z => by rw [qd] at z; cases z), (fun _ z => by rw [ql] at z; cases z)⟩, fun k a => by rw [ko k (by omega) (by omega), z_ro_ne _ _ (by omega)]⟩
          have hmk : y_mk B L p = if p + 1 < y_end B L p then (if B p = 60 then 4 else 5) else if 0 ≤ y_si y_sg 0 (B p) then B p else 3 := by
            unfold y_mk
            simp only [c, qd, ql, if_true, if_false, Bool.false_eq_true]
          rw [hmk, k9, ee, ← htk]
          by_cases z : (B p = 60 ∨ B p = 62) ∧ p + 1 < L ∧ B (p + 1) = 61
          · rw [if_pos z, if_pos z]; exact (if_pos (show p + 1 < p + 1 + 1 by omega)).symm
          · rw [if_neg z, if_neg z, if_neg (by omega)]
        have r7 : z_ro (z_ro R 8 p) 9 3 7 = p := by rw [z_ro_ne _ _ (by omega), z_ro_ne _ _ (by omega)]; exact h7
        have r7' : z_ro (z_ro R 8 p) 9 (B p) 7 = p := by rw [z_ro_ne _ _ (by omega), z_ro_ne _ _ (by omega)]; exact h7
        have r78 : z_ro R 8 p 7 = p := by rw [z_ro_ne _ _ (by omega)]; exact h7
        by_cases cs : 0 ≤ y_si y_sg 0 (B p)
        · rw [decide_eq_true cs] at sg
          obtain ⟨R2, k1, k2, k3, k4⟩ := key (B p) (fun _ => hb)
          by_cases c6 : B p = 60 ∨ B p = 62
          · refine ⟨R2, s, ?_, fin (B p) R2 (if_pos cs).symm (by rw [k2]; simp only [c6, true_and]) (by rw [k3]; simp only [c6, true_and]) k4 _⟩
            rw [← k1, e_M_nextToken_0]
            by_cases c7 : B p = 60
            · have c7' : (B p = 60) = True := eq_true c7
              simp (maxSteps := 3000000) -implicitDefEqProofs (disch := first | assumption | omega | rfl | (simp only [z_up_eq, z_up_app, ↓reduceIte, Nat.reduceEqDiff]; omega)) only [z_lit0, z_lit1, z_lit2, z_litl, iI_add, iI_sub, iI_mul, iI_neg, iI_and, iI_or, iI_xor, iI_shl, iI_shr, iI_ushr, iI_div, iI_b, iI_c, iI_i2l, lI_l2i, lI_add, lI_sub, lI_mul, lI_neg, lI_div, lI_or, lI_and, lI_shl, lI_shr, nI_iI, lg_lt0, lg_gt0, lg_eq0, i_ne0', l_ne0', iI_lt, iI_le, iI_eq, lI_lt, lI_le, lI_eq, zb_0, zb_fit, zb_fit0, zb_fit1, i_one_zero, i_w_in, z_tb0, z_tb1, z_tb2, z_tb3, z_tb4, z_tb5, z_tb6, z_tb7, z_tb8, z_tbl, z_tu0, z_tu1, z_tu2, z_i_62, z_i_63, z_i_86, z_i_88, z_l_Y, z_ui_62, z_ui_63, z_ui_86, z_ui_88, z_ul_Y, z_sz_Y, z_sw_Y, iI_nat, z_ix_t, z_at, Int.add_zero, Int.sub_zero, Int.zero_add, Int.mul_zero, ne_eq, Bool.false_eq_true, Bool.true_eq_false, reduceCtorEq, eq_self, and_true, true_and, and_false, false_and, and_self, not_true_eq_false, not_false_eq_true, decide_true, decide_false, ↓reduceIte, Int.reduceEq, Int.reduceNe, Int.reduceLT, Int.reduceLE, Int.reduceAdd, Int.reduceSub, Int.reduceMul, Int.reduceNeg, Nat.reduceAdd, Nat.reduceEqDiff, Nat.reduceBEq, ↓z_x_eq, z_g_t, z_bI_s, z_bL_s, z_bR_s, z_bV_s, Int.cast_ofNat_Int, beq_self_eq_true, Bool.and_true, Bool.true_and, Bool.and_self, Bool.or_true, Bool.true_or, Bool.false_and, Bool.and_false, Bool.false_or, Bool.or_false, Bool.not_false, Bool.not_true, if_true, if_false, ite_true, ite_false, z_up_eq, z_up_app, z_ro_eq, h7, b0, n32, n10, r78, b1, ng, dg, zb_f, lt, sg, zb_t, r7', c7', z_up_up]
            · have c7' : (B p = 60) = False := eq_false c7
              have c8' : (B p = 62) = True := eq_true (by omega)
              simp (maxSteps := 3000000) -implicitDefEqProofs (disch := first | assumption | omega | rfl | (simp only [z_up_eq, z_up_app, ↓reduceIte, Nat.reduceEqDiff]; omega)) only [z_lit0, z_lit1, z_lit2, z_litl, iI_add, iI_sub, iI_mul, iI_neg, iI_and, iI_or, iI_xor, iI_shl, iI_shr, iI_ushr, iI_div, iI_b, iI_c, iI_i2l, lI_l2i, lI_add, lI_sub, lI_mul, lI_neg, lI_div, lI_or, lI_and, lI_shl, lI_shr, nI_iI, lg_lt0, lg_gt0, lg_eq0, i_ne0', l_ne0', iI_lt, iI_le, iI_eq, lI_lt, lI_le, lI_eq, zb_0, zb_fit, zb_fit0, zb_fit1, i_one_zero, i_w_in, z_tb0, z_tb1, z_tb2, z_tb3, z_tb4, z_tb5, z_tb6, z_tb7, z_tb8, z_tbl, z_tu0, z_tu1, z_tu2, z_i_62, z_i_63, z_i_86, z_i_88, z_l_Y, z_ui_62, z_ui_63, z_ui_86, z_ui_88, z_ul_Y, z_sz_Y, z_sw_Y, iI_nat, z_ix_t, z_at, Int.add_zero, Int.sub_zero, Int.zero_add, Int.mul_zero, ne_eq, Bool.false_eq_true, Bool.true_eq_false, reduceCtorEq, eq_self, and_true, true_and, and_false, false_and, and_self, not_true_eq_false, not_false_eq_true, decide_true, decide_false, ↓reduceIte, Int.reduceEq, Int.reduceNe, Int.reduceLT, Int.reduceLE, Int.reduceAdd, Int.reduceSub, Int.reduceMul, Int.reduceNeg, Nat.reduceAdd, Nat.reduceEqDiff, Nat.reduceBEq, ↓z_x_eq, z_g_t, z_bI_s, z_bL_s, z_bR_s, z_bV_s, Int.cast_ofNat_Int, beq_self_eq_true, Bool.and_true, Bool.true_and, Bool.and_self, Bool.or_true, Bool.true_or, Bool.false_and, Bool.and_false, Bool.false_or, Bool.or_false, Bool.not_false, Bool.not_true, if_true, if_false, ite_true, ite_false, z_up_eq, z_up_app, z_ro_eq, h7, b0, n32, n10, r78, b1, ng, dg, zb_f, lt, sg, zb_t, r7', c7', c8', z_up_up]
          · refine ⟨z_ro (z_ro (z_ro R 8 p) 9 (B p)) 7 (p + 1), s, ?_, fin (B p) _ (if_pos cs).symm (by rw [if_neg (fun z => c6 z.1), z_ro_eq]) (by rw [if_neg (fun z => c6 z.1), z_ro_ne _ _ (by omega), z_ro_eq]) (fun k a b => by rw [z_ro_ne _ _ a, z_ro_ne _ _ b]) _⟩
            rw [e_M_nextToken_0]
            have c7' : (B p = 60) = False := eq_false (by omega)
            have c8' : (B p = 62) = False := eq_false (by omega)
            simp (maxSteps := 3000000) -implicitDefEqProofs (disch := first | assumption | omega | rfl | (simp only [z_up_eq, z_up_app, ↓reduceIte, Nat.reduceEqDiff]; omega)) only [z_lit0, z_lit1, z_lit2, z_litl, iI_add, iI_sub, iI_mul, iI_neg, iI_and, iI_or, iI_xor, iI_shl, iI_shr, iI_ushr, iI_div, iI_b, iI_c, iI_i2l, lI_l2i, lI_add, lI_sub, lI_mul, lI_neg, lI_div, lI_or, lI_and, lI_shl, lI_shr, nI_iI, lg_lt0, lg_gt0, lg_eq0, i_ne0', l_ne0', iI_lt, iI_le, iI_eq, lI_lt, lI_le, lI_eq, zb_0, zb_fit, zb_fit0, zb_fit1, i_one_zero, i_w_in, z_tb0, z_tb1, z_tb2, z_tb3, z_tb4, z_tb5, z_tb6, z_tb7, z_tb8, z_tbl, z_tu0, z_tu1, z_tu2, z_i_62, z_i_63, z_i_86, z_i_88, z_l_Y, z_ui_62, z_ui_63, z_ui_86, z_ui_88, z_ul_Y, z_sz_Y, z_sw_Y, iI_nat, z_ix_t, z_at, Int.add_zero, Int.sub_zero, Int.zero_add, Int.mul_zero, ne_eq, Bool.false_eq_true, Bool.true_eq_false, reduceCtorEq, eq_self, and_true, true_and, and_false, false_and, and_self, not_true_eq_false, not_false_eq_true, decide_true, decide_false, ↓reduceIte, Int.reduceEq, Int.reduceNe, Int.reduceLT, Int.reduceLE, Int.reduceAdd, Int.reduceSub, Int.reduceMul, Int.reduceNeg, Nat.reduceAdd, Nat.reduceEqDiff, Nat.reduceBEq, ↓z_x_eq, z_g_t, z_bI_s, z_bL_s, z_bR_s, z_bV_s, Int.cast_ofNat_Int, beq_self_eq_true, Bool.and_true, Bool.true_and, Bool.and_self, Bool.or_true, Bool.true_or, Bool.false_and, Bool.and_false, Bool.false_or, Bool.or_false, Bool.not_false, Bool.not_true, if_true, if_false, ite_true, ite_false, z_up_eq, z_up_app, z_ro_eq, h7, b0, n32, n10, r78, b1, ng, dg, zb_f, lt, sg, zb_t, r7', c7', c8', z_up_up]
        · rw [decide_eq_false cs] at sg
          have c6 : ¬ (B p = 60 ∨ B p = 62) := by
            intro z
            apply cs
            rcases z with z | z <;> rw [z] <;> decide
          refine ⟨z_ro (z_ro (z_ro R 8 p) 9 3) 7 (p + 1), s, ?_, fin 3 _ (if_neg cs).symm (by rw [if_neg (fun z => c6 z.1), z_ro_eq]) (by rw [if_neg (fun z => c6 z.1), z_ro_ne _ _ (by omega), z_ro_eq]) (fun k a b => by rw [z_ro_ne _ _ a, z_ro_ne _ _ b]) _⟩
          rw [e_M_nextToken_0]
          have c7' : (B p = 60) = False := eq_false (by omega)
          have c8' : (B p = 62) = False := eq_false (by omega)
          simp (maxSteps := 3000000) -implicitDefEqProofs (disch := first | assumption | omega | rfl | (simp only [z_up_eq, z_up_app, ↓reduceIte, Nat.reduceEqDiff]; omega)) only [z_lit0, z_lit1, z_lit2, z_litl, iI_add, iI_sub, iI_mul, iI_neg, iI_and, iI_or, iI_xor, iI_shl, iI_shr, iI_ushr, iI_div, iI_b, iI_c, iI_i2l, lI_l2i, lI_add, lI_sub, lI_mul, lI_neg, lI_div, lI_or, lI_and, lI_shl, lI_shr, nI_iI, lg_lt0, lg_gt0, lg_eq0, i_ne0', l_ne0', iI_lt, iI_le, iI_eq, lI_lt, lI_le, lI_eq, zb_0, zb_fit, zb_fit0, zb_fit1, i_one_zero, i_w_in, z_tb0, z_tb1, z_tb2, z_tb3, z_tb4, z_tb5, z_tb6, z_tb7, z_tb8, z_tbl, z_tu0, z_tu1, z_tu2, z_i_62, z_i_63, z_i_86, z_i_88, z_l_Y, z_ui_62, z_ui_63, z_ui_86, z_ui_88, z_ul_Y, z_sz_Y, z_sw_Y, iI_nat, z_ix_t, z_at, Int.add_zero, Int.sub_zero, Int.zero_add, Int.mul_zero, ne_eq, Bool.false_eq_true, Bool.true_eq_false, reduceCtorEq, eq_self, and_true, true_and, and_false, false_and, and_self, not_true_eq_false, not_false_eq_true, decide_true, decide_false, ↓reduceIte, Int.reduceEq, Int.reduceNe, Int.reduceLT, Int.reduceLE, Int.reduceAdd, Int.reduceSub, Int.reduceMul, Int.reduceNeg, Nat.reduceAdd, Nat.reduceEqDiff, Nat.reduceBEq, ↓z_x_eq, z_g_t, z_bI_s, z_bL_s, z_bR_s, z_bV_s, Int.cast_ofNat_Int, beq_self_eq_true, Bool.and_true, Bool.true_and, Bool.and_self, Bool.or_true, Bool.true_or, Bool.false_and, Bool.and_false, Bool.false_or, Bool.or_false, Bool.not_false, Bool.not_true, if_true, if_false, ite_true, ite_false, z_up_eq, z_up_app, z_ro_eq, h7, b0, n32, n10, r78, b1, ng, dg, zb_f, lt, sg, zb_t, r7, c7', c8', z_up_up]
      · rw [ql] at lt
        have ee : y_end B L p = y_go y_let B L (p + 1) := by unfold y_end; rw [ql, if_pos rfl]
        have eg := y_sl_go c ql
        have r78 : z_ro R 8 p 7 = p := by rw [z_ro_ne _ _ (by omega)]; exact h7
        obtain ⟨R2, s2, k1, k2, k3, k4⟩ := p_nt_168 d T G (B := B) (L := L) L.toNat p 0 (z_ro (z_ro R 8 p) 9 2) (s.1, z_up s.2 80 (z_ro (s.2 80) 11 0)) (y_tm_up hB (by rw [z_ro_ne _ _ (by omega), z_ro_ne _ _ (by omega)])) hp.1 hp.2 (by omega) (by rw [z_ro_ne _ _ (by omega)]; exact r78) (by show z_up s.2 80 (z_ro (s.2 80) 11 0) 80 11 = 0; rw [z_up_eq, z_ro_eq]) (by omega)
        refine ⟨R2, s2, ?_, ⟨by rw [k4 8 (by omega), z_ro_ne _ _ (by omega), z_ro_eq], by rw [k2, if_pos c, ee, eg], ?_, (fun _ z => by rw [qd] at z; cases z), (fun _ _ => by rw [k3, ee, ← eg])⟩, fun k a => by rw [k4 k (by omega), z_ro_ne _ _ (by omega), z_ro_ne _ _ (by omega)]⟩
        · rw [← k1, e_M_nextToken_0]
          simp (maxSteps := 3000000) -implicitDefEqProofs (disch := first | assumption | omega | rfl | (simp only [z_up_eq, z_up_app, ↓reduceIte, Nat.reduceEqDiff]; omega)) only [z_lit0, z_lit1, z_lit2, z_litl, iI_add, iI_sub, iI_mul, iI_neg, iI_and, iI_or, iI_xor, iI_shl, iI_shr, iI_ushr, iI_div, iI_b, iI_c, iI_i2l, lI_l2i, lI_add, lI_sub, lI_mul, lI_neg, lI_div, lI_or, lI_and, lI_shl, lI_shr, nI_iI, lg_lt0, lg_gt0, lg_eq0, i_ne0', l_ne0', iI_lt, iI_le, iI_eq, lI_lt, lI_le, lI_eq, zb_0, zb_fit, zb_fit0, zb_fit1, i_one_zero, i_w_in, z_tb0, z_tb1, z_tb2, z_tb3, z_tb4, z_tb5, z_tb6, z_tb7, z_tb8, z_tbl, z_tu0, z_tu1, z_tu2, z_i_62, z_i_63, z_i_86, z_i_88, z_l_Y, z_ui_62, z_ui_63, z_ui_86, z_ui_88, z_ul_Y, z_sz_Y, z_sw_Y, iI_nat, z_ix_t, z_at, Int.add_zero, Int.sub_zero, Int.zero_add, Int.mul_zero, ne_eq, Bool.false_eq_true, Bool.true_eq_false, reduceCtorEq, eq_self, and_true, true_and, and_false, false_and, and_self, not_true_eq_false, not_false_eq_true, decide_true, decide_false, ↓reduceIte, Int.reduceEq, Int.reduceNe, Int.reduceLT, Int.reduceLE, Int.reduceAdd, Int.reduceSub, Int.reduceMul, Int.reduceNeg, Nat.reduceAdd, Nat.reduceEqDiff, Nat.reduceBEq, ↓z_x_eq, z_g_t, z_bI_s, z_bL_s, z_bR_s, z_bV_s, Int.cast_ofNat_Int, beq_self_eq_true, Bool.and_true, Bool.true_and, Bool.and_self, Bool.or_true, Bool.true_or, Bool.false_and, Bool.and_false, Bool.false_or, Bool.or_false, Bool.not_false, Bool.not_true, if_true, if_false, ite_true, ite_false, z_up_eq, z_up_app, z_ro_eq, h7, b0, n32, n10, r78, b1, ng, dg, zb_f, lt, zb_t, z_up_up]
        · rw [k4 9 (by omega), z_ro_eq]
          unfold y_mk
          rw [if_pos c, qd, ql, if_neg (by decide), if_pos rfl]
    · rw [qd] at dg
      have ql : y_let (B p) = false := by
        have q := of_decide_eq_true qd
        exact decide_eq_false (by omega)
      have ee : y_end B L p = y_go y_dig B L (p + 1) := by unfold y_end; rw [ql, qd, if_neg (by decide), if_pos rfl]
      have eg := y_sl_go c qd
      have r78 : z_ro R 8 p 7 = p := by rw [z_ro_ne _ _ (by omega)]; exact h7
      obtain ⟨R2, k1, k2, k3, k4⟩ := p_nt_85 d T G s (B := B) (L := L) L.toNat p 0 (z_ro (z_ro (z_ro R 8 p) 9 1) 10 0) (y_tm_up hB (by rw [z_ro_ne _ _ (by omega), z_ro_ne _ _ (by omega), z_ro_ne _ _ (by omega)])) hp.1 hp.2 (by omega) (by rw [z_ro_ne _ _ (by omega), z_ro_ne _ _ (by omega)]; exact r78) (z_ro_eq _ _ _) (by omega) (by omega)
      refine ⟨R2, s, ?_, ⟨by rw [k4 8 (by omega) (by omega), z_ro_ne _ _ (by omega), z_ro_ne _ _ (by omega), z_ro_eq], by rw [k2, if_pos c, ee, eg], ?_, (fun _ _ => by rw [k3, ee, ← eg]), (fun _ z => by rw [ql] at z; cases z)⟩, fun k a => by rw [k4 k (by omega) (by omega), z_ro_ne _ _ (by omega), z_ro_ne _ _ (by omega), z_ro_ne _ _ (by omega)]⟩
      · rw [← k1, e_M_nextToken_0]
        simp (maxSteps := 3000000) -implicitDefEqProofs (disch := first | assumption | omega | rfl | (simp only [z_up_eq, z_up_app, ↓reduceIte, Nat.reduceEqDiff]; omega)) only [z_lit0, z_lit1, z_lit2, z_litl, iI_add, iI_sub, iI_mul, iI_neg, iI_and, iI_or, iI_xor, iI_shl, iI_shr, iI_ushr, iI_div, iI_b, iI_c, iI_i2l, lI_l2i, lI_add, lI_sub, lI_mul, lI_neg, lI_div, lI_or, lI_and, lI_shl, lI_shr, nI_iI, lg_lt0, lg_gt0, lg_eq0, i_ne0', l_ne0', iI_lt, iI_le, iI_eq, lI_lt, lI_le, lI_eq, zb_0, zb_fit, zb_fit0, zb_fit1, i_one_zero, i_w_in, z_tb0, z_tb1, z_tb2, z_tb3, z_tb4, z_tb5, z_tb6, z_tb7, z_tb8, z_tbl, z_tu0, z_tu1, z_tu2, z_i_62, z_i_63, z_i_86, z_i_88, z_l_Y, z_ui_62, z_ui_63, z_ui_86, z_ui_88, z_ul_Y, z_sz_Y, z_sw_Y, iI_nat, z_ix_t, z_at, Int.add_zero, Int.sub_zero, Int.zero_add, Int.mul_zero, ne_eq, Bool.false_eq_true, Bool.true_eq_false, reduceCtorEq, eq_self, and_true, true_and, and_false, false_and, and_self, not_true_eq_false, not_false_eq_true, decide_true, decide_false, ↓reduceIte, Int.reduceEq, Int.reduceNe, Int.reduceLT, Int.reduceLE, Int.reduceAdd, Int.reduceSub, Int.reduceMul, Int.reduceNeg, Nat.reduceAdd, Nat.reduceEqDiff, Nat.reduceBEq, ↓z_x_eq, z_g_t, z_bI_s, z_bL_s, z_bR_s, z_bV_s, Int.cast_ofNat_Int, beq_self_eq_true, Bool.and_true, Bool.true_and, Bool.and_self, Bool.or_true, Bool.true_or, Bool.false_and, Bool.and_false, Bool.false_or, Bool.or_false, Bool.not_false, Bool.not_true, if_true, if_false, ite_true, ite_false, z_up_eq, z_up_app, z_ro_eq, h7, b0, n32, n10, r78, b1, ng, dg, zb_t, z_up_up]
      · rw [k4 9 (by omega) (by omega), z_ro_ne _ _ (by omega), z_ro_eq]
        unfold y_mk
        rw [if_pos c, qd, if_pos rfl]
  · rw [if_neg c] at ba
    have b0 := ba R rfl
    have b1 := ba (z_ro R 8 p) (z_ro_ne _ _ (by omega))
    have r78 : z_ro R 8 p 7 = p := by rw [z_ro_ne _ _ (by omega)]; exact h7
    refine ⟨z_ro (z_ro R 8 p) 9 0, s, ?_, ⟨by rw [z_ro_ne _ _ (by omega), z_ro_eq], by rw [if_neg c, z_ro_ne _ _ (by omega), r78]; omega, ?_, fun z => absurd z c, fun z => absurd z c⟩, fun k a => by rw [z_ro_ne _ _ (by omega), z_ro_ne _ _ (by omega)]⟩
    · rw [e_M_nextToken_0]
      simp (maxSteps := 3000000) -implicitDefEqProofs (disch := first | assumption | omega | rfl | (simp only [z_up_eq, z_up_app, ↓reduceIte, Nat.reduceEqDiff]; omega)) only [z_lit0, z_lit1, z_lit2, z_litl, iI_add, iI_sub, iI_mul, iI_neg, iI_and, iI_or, iI_xor, iI_shl, iI_shr, iI_ushr, iI_div, iI_b, iI_c, iI_i2l, lI_l2i, lI_add, lI_sub, lI_mul, lI_neg, lI_div, lI_or, lI_and, lI_shl, lI_shr, nI_iI, lg_lt0, lg_gt0, lg_eq0, i_ne0', l_ne0', iI_lt, iI_le, iI_eq, lI_lt, lI_le, lI_eq, zb_0, zb_fit, zb_fit0, zb_fit1, i_one_zero, i_w_in, z_tb0, z_tb1, z_tb2, z_tb3, z_tb4, z_tb5, z_tb6, z_tb7, z_tb8, z_tbl, z_tu0, z_tu1, z_tu2, z_i_62, z_i_63, z_i_86, z_i_88, z_l_Y, z_ui_62, z_ui_63, z_ui_86, z_ui_88, z_ul_Y, z_sz_Y, z_sw_Y, iI_nat, z_ix_t, z_at, Int.add_zero, Int.sub_zero, Int.zero_add, Int.mul_zero, ne_eq, Bool.false_eq_true, Bool.true_eq_false, reduceCtorEq, eq_self, and_true, true_and, and_false, false_and, and_self, not_true_eq_false, not_false_eq_true, decide_true, decide_false, ↓reduceIte, Int.reduceEq, Int.reduceNe, Int.reduceLT, Int.reduceLE, Int.reduceAdd, Int.reduceSub, Int.reduceMul, Int.reduceNeg, Nat.reduceAdd, Nat.reduceEqDiff, Nat.reduceBEq, ↓z_x_eq, z_g_t, z_bI_s, z_bL_s, z_bR_s, z_bV_s, Int.cast_ofNat_Int, beq_self_eq_true, Bool.and_true, Bool.true_and, Bool.and_self, Bool.or_true, Bool.true_or, Bool.false_and, Bool.and_false, Bool.false_or, Bool.or_false, Bool.not_false, Bool.not_true, if_true, if_false, ite_true, ite_false, z_up_eq, z_up_app, z_ro_eq, h7, b0, r78, b1, z_up_up]
    · rw [z_ro_eq]; unfold y_mk; rw [if_neg c]
theorem p_nt (d : Nat) (T : ZT) (G : ZG) (s : ZG × ZG) {B : Int → Int} {L : Int} : ∀ (m : Nat) (e : Int) (R : Int → Int), y_tm (z_up G 80 R) B L → 0 ≤ e → e ≤ L → L ≤ e + m → R 7 = e → ∃ R' s', z_w d_M_nextToken (z_call (d + 1)) 0 [some (vr 80), none] [] (z_Y T (z_up G 80 R) s) = some (vi (iI 0), z_Y T (z_up G 80 R') s') ∧ y_mt R' (s'.2 80 11) B L (y_go y_bl B L e) ∧ ∀ k, ¬ (7 ≤ k ∧ k ≤ 10) → R' k = R k
  | 0, e, R, hB, h0, h1, h2, h7 => by
    rw [y_go_end (by omega)]
    exact p_nt_at d T G s hB ⟨h0, h1⟩ h7 (fun z => by omega)
  | m + 1, e, R, hB, h0, h1, h2, h7 => by
    have hL := hB.1
    by_cases c : e < L
    · cases q : y_bl (B e)
      · rw [y_go_st c, q]
        exact p_nt_at d T G s hB ⟨h0, h1⟩ h7 (fun _ => q)
      · have q' := of_decide_eq_true q
        obtain ⟨R', s', k1, k2, k3⟩ := p_nt d T G s (B := B) (L := L) m (e + 1) (z_ro R 7 (e + 1)) (y_tm_up hB (z_ro_ne _ _ (by omega))) (by omega) (by omega) (by omega) (z_ro_eq _ _ _)
        refine ⟨R', s', ?_, by rw [y_go_st c, q]; exact k2, fun k a => by rw [k3 k a, z_ro_ne _ _ (by omega)]⟩
        have ba := p_byteAt d T (z_up G 80 R) s hB ⟨h0, h1⟩
        rw [if_pos c] at ba
        have hb := hB.2.2.2 e h0 c
        rw [← k1, e_M_nextToken_0]
        by_cases n32 : B e = 32
        · have n32' : (B e = 32) = True := eq_true n32
          simp (maxSteps := 3000000) -implicitDefEqProofs (disch := first | assumption | omega | rfl | (simp only [z_up_eq, z_up_app, ↓reduceIte, Nat.reduceEqDiff]; omega)) only [z_lit0, z_lit1, z_lit2, z_litl, iI_add, iI_sub, iI_mul, iI_neg, iI_and, iI_or, iI_xor, iI_shl, iI_shr, iI_ushr, iI_div, iI_b, iI_c, iI_i2l, lI_l2i, lI_add, lI_sub, lI_mul, lI_neg, lI_div, lI_or, lI_and, lI_shl, lI_shr, nI_iI, lg_lt0, lg_gt0, lg_eq0, i_ne0', l_ne0', iI_lt, iI_le, iI_eq, lI_lt, lI_le, lI_eq, zb_0, zb_fit, zb_fit0, zb_fit1, i_one_zero, i_w_in, z_tb0, z_tb1, z_tb2, z_tb3, z_tb4, z_tb5, z_tb6, z_tb7, z_tb8, z_tbl, z_tu0, z_tu1, z_tu2, z_i_62, z_i_63, z_i_86, z_i_88, z_l_Y, z_ui_62, z_ui_63, z_ui_86, z_ui_88, z_ul_Y, z_sz_Y, z_sw_Y, iI_nat, z_ix_t, z_at, Int.add_zero, Int.sub_zero, Int.zero_add, Int.mul_zero, ne_eq, Bool.false_eq_true, Bool.true_eq_false, reduceCtorEq, eq_self, and_true, true_and, and_false, false_and, and_self, not_true_eq_false, not_false_eq_true, decide_true, decide_false, ↓reduceIte, Int.reduceEq, Int.reduceNe, Int.reduceLT, Int.reduceLE, Int.reduceAdd, Int.reduceSub, Int.reduceMul, Int.reduceNeg, Nat.reduceAdd, Nat.reduceEqDiff, Nat.reduceBEq, ↓z_x_eq, z_g_t, z_bI_s, z_bL_s, z_bR_s, z_bV_s, Int.cast_ofNat_Int, beq_self_eq_true, Bool.and_true, Bool.true_and, Bool.and_self, Bool.or_true, Bool.true_or, Bool.false_and, Bool.and_false, Bool.false_or, Bool.or_false, Bool.not_false, Bool.not_true, if_true, if_false, ite_true, ite_false, z_up_eq, z_up_app, z_ro_eq, h7, ba, n32', z_up_up]
        · have n32' : (B e = 32) = False := eq_false n32
          have n10' : (B e = 10) = True := eq_true (by omega)
          simp (maxSteps := 3000000) -implicitDefEqProofs (disch := first | assumption | omega | rfl | (simp only [z_up_eq, z_up_app, ↓reduceIte, Nat.reduceEqDiff]; omega)) only [z_lit0, z_lit1, z_lit2, z_litl, iI_add, iI_sub, iI_mul, iI_neg, iI_and, iI_or, iI_xor, iI_shl, iI_shr, iI_ushr, iI_div, iI_b, iI_c, iI_i2l, lI_l2i, lI_add, lI_sub, lI_mul, lI_neg, lI_div, lI_or, lI_and, lI_shl, lI_shr, nI_iI, lg_lt0, lg_gt0, lg_eq0, i_ne0', l_ne0', iI_lt, iI_le, iI_eq, lI_lt, lI_le, lI_eq, zb_0, zb_fit, zb_fit0, zb_fit1, i_one_zero, i_w_in, z_tb0, z_tb1, z_tb2, z_tb3, z_tb4, z_tb5, z_tb6, z_tb7, z_tb8, z_tbl, z_tu0, z_tu1, z_tu2, z_i_62, z_i_63, z_i_86, z_i_88, z_l_Y, z_ui_62, z_ui_63, z_ui_86, z_ui_88, z_ul_Y, z_sz_Y, z_sw_Y, iI_nat, z_ix_t, z_at, Int.add_zero, Int.sub_zero, Int.zero_add, Int.mul_zero, ne_eq, Bool.false_eq_true, Bool.true_eq_false, reduceCtorEq, eq_self, and_true, true_and, and_false, false_and, and_self, not_true_eq_false, not_false_eq_true, decide_true, decide_false, ↓reduceIte, Int.reduceEq, Int.reduceNe, Int.reduceLT, Int.reduceLE, Int.reduceAdd, Int.reduceSub, Int.reduceMul, Int.reduceNeg, Nat.reduceAdd, Nat.reduceEqDiff, Nat.reduceBEq, ↓z_x_eq, z_g_t, z_bI_s, z_bL_s, z_bR_s, z_bV_s, Int.cast_ofNat_Int, beq_self_eq_true, Bool.and_true, Bool.true_and, Bool.and_self, Bool.or_true, Bool.true_or, Bool.false_and, Bool.and_false, Bool.false_or, Bool.or_false, Bool.not_false, Bool.not_true, if_true, if_false, ite_true, ite_false, z_up_eq, z_up_app, z_ro_eq, h7, ba, n32', n10', z_up_up]
    · rw [y_go_end (by omega)]
      exact p_nt_at d T G s hB ⟨h0, h1⟩ h7 (fun z => by omega)
/-- the model's next token, the j-th being the last -/
theorem p_next (d : Nat) (T : ZT) (G : ZG) (s : ZG × ZG) {B : Int → Int} {L : Int} (hB : y_tm G B L) {j : Nat} {w : Int} (hm : y_mt (G 80) w B L (y_P B L j)) : ∃ R' s', z_call (d + 2) 80 [vr 80] (z_Y T G s) = some (vi (iI 0), z_Y T (z_up G 80 R') s') ∧ y_mt R' (s'.2 80 11) B L (y_P B L (j + 1)) ∧ ∀ k, ¬ (7 ≤ k ∧ k ≤ 10) → R' k = G 80 k := by
  have hL := hB.1
  have h := y_P_in (B := B) hL.1 j
  have e : y_P B L (j + 1) = y_go y_bl B L (if y_P B L j < L then y_end B L (y_P B L j) else L) := by
    show (if y_P B L j < L then _ else _) = _
    by_cases c : y_P B L j < L
    · rw [if_pos c, if_pos c]
    · rw [if_neg c, if_neg c, y_go_end (by omega)]; omega
  have hi : 0 ≤ (if y_P B L j < L then y_end B L (y_P B L j) else L) ∧ (if y_P B L j < L then y_end B L (y_P B L j) else L) ≤ L := by
    split
    · rename_i c
      have := y_end_in (B := B) c
      omega
    · omega
  rw [e, nt_0]
  have q := p_nt d T G s (B := B) (L := L) L.toNat _ (G 80) (by rw [z_up_id]; exact hB) hi.1 hi.2 (by omega) hm.2.1
  rw [z_up_id] at q
  exact q

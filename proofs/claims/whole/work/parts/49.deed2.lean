/-! THE PURE PART, 29: seat, person, note as deeds -/
theorem d_seat (d b_ : Nat) {T : ZT} {G : ZG} (hE : ∃ A, c_nw A G) {b l : Int} (hb : i_in b) (hl : i_in l) : z_dd False T G (fun σ => z_call (d + 2) 17 [vr 11, vi (iI b), vi (iI l)] σ) (fun σ => z_call (b_ + 2) 20 [vr 80, vi (iI b), vi (iI l)] σ) := by
  obtain ⟨A0, hC0⟩ := hE
  have q0 := (dw_h hC0).1
  have b0 := hC0.1.1
  by_cases c1 : (0 ≤ b ∧ b ≤ 3) ∧ (0 ≤ l ∧ l ≤ 9) ∧ G 11 0 < 10
  · obtain ⟨c1, c2, c3⟩ := c1
    have c3' : (G 11 0 < 10) = True := eq_true c3
    refine ⟨iI (G 11 0), z_up (z_up (z_up G 11 (z_ro (G 11) 0 (G 11 0 + 1))) 12 (z_ro (G 12) (G 11 0) b)) 13 (z_ro (G 13) (G 11 0) l), fun h => h.elim, fun s => ?_, fun r a => ?_, ?_⟩
    · dsimp only
      rw [e_H_addSeat]
      simp -implicitDefEqProofs (disch := first | assumption | omega | rfl | (simp only [z_up_eq, z_up_app, ↓reduceIte, Nat.reduceEqDiff]; omega)) only [z_lit0, z_lit1, z_lit2, z_litl, iI_add, iI_sub, iI_mul, iI_neg, iI_and, iI_or, iI_xor, iI_shl, iI_shr, iI_ushr, iI_div, iI_b, iI_c, iI_i2l, lI_l2i, lI_add, lI_sub, lI_mul, lI_neg, lI_div, lI_or, lI_and, lI_shl, lI_shr, nI_iI, lg_lt0, lg_gt0, lg_eq0, i_ne0', l_ne0', iI_lt, iI_le, iI_eq, lI_lt, lI_le, lI_eq, zb_0, zb_fit, zb_fit0, zb_fit1, i_one_zero, i_w_in, z_tb0, z_tb1, z_tb2, z_tb3, z_tb4, z_tb5, z_tb6, z_tb7, z_tb8, z_tbl, z_tu0, z_tu1, z_tu2, z_i_62, z_i_63, z_i_86, z_i_88, z_l_Y, z_ui_62, z_ui_63, z_ui_86, z_ui_88, z_ul_Y, z_sz_Y, z_sw_Y, iI_nat, z_ix_t, z_at, Int.add_zero, Int.sub_zero, Int.zero_add, Int.mul_zero, ne_eq, Bool.false_eq_true, Bool.true_eq_false, reduceCtorEq, eq_self, and_true, true_and, and_false, false_and, and_self, not_true_eq_false, not_false_eq_true, decide_true, decide_false, ↓reduceIte, Int.reduceEq, Int.reduceNe, Int.reduceLT, Int.reduceLE, Int.reduceAdd, Int.reduceSub, Int.reduceMul, Int.reduceNeg, Nat.reduceAdd, Nat.reduceEqDiff, Nat.reduceBEq, ↓z_x_eq, z_g_t, z_bI_s, z_bL_s, z_bR_s, z_bV_s, Int.cast_ofNat_Int, beq_self_eq_true, Bool.and_true, Bool.true_and, Bool.and_self, Bool.or_true, Bool.true_or, Bool.false_and, Bool.and_false, Bool.false_or, Bool.or_false, Bool.not_false, Bool.not_true, if_true, if_false, ite_true, ite_false, z_up_eq, z_up_app, z_ro_eq, p_within, c1, c2, zb_t, c3', z_up_up, z_up_cm]
      exact ok_q' (by congr 2; omega) rfl
    · rw [z_up_ne _ _ (show r ≠ 13 by omega), z_up_ne _ _ (show r ≠ 12 by omega), z_up_ne _ _ (show r ≠ 11 by omega)]
    · intro A Gm s hC e hq e83
      obtain ⟨m0, m1, m2, m3, m4, m5, m6, m7, m8, m9, m10, m11, ms, mp, mn, mc, mb, me⟩ := hC.1
      have q := (dw_h hC).1
      rw [q] at c3 ⊢
      have c4 : (A 0 = 10) = False := eq_false (by omega)
      dsimp only
      rw [e_M_seat]
      have r0 : z_ro (z_ro (A) (12 + 2 * A 0) b) (12 + 2 * A 0 + 1) l 0 = A 0 := by rw [z_ro_ne _ _ (by omega), z_ro_ne _ _ (by omega)]
      have r1 : z_ro (A) (12 + 2 * A 0) b 0 = A 0 := z_ro_ne _ _ (by omega)
      simp -implicitDefEqProofs (disch := first | assumption | omega | rfl | (simp only [z_up_eq, z_up_app, ↓reduceIte, Nat.reduceEqDiff]; omega)) only [z_lit0, z_lit1, z_lit2, z_litl, iI_add, iI_sub, iI_mul, iI_neg, iI_and, iI_or, iI_xor, iI_shl, iI_shr, iI_ushr, iI_div, iI_b, iI_c, iI_i2l, lI_l2i, lI_add, lI_sub, lI_mul, lI_neg, lI_div, lI_or, lI_and, lI_shl, lI_shr, nI_iI, lg_lt0, lg_gt0, lg_eq0, i_ne0', l_ne0', iI_lt, iI_le, iI_eq, lI_lt, lI_le, lI_eq, zb_0, zb_fit, zb_fit0, zb_fit1, i_one_zero, i_w_in, z_tb0, z_tb1, z_tb2, z_tb3, z_tb4, z_tb5, z_tb6, z_tb7, z_tb8, z_tbl, z_tu0, z_tu1, z_tu2, z_i_62, z_i_63, z_i_86, z_i_88, z_l_Y, z_ui_62, z_ui_63, z_ui_86, z_ui_88, z_ul_Y, z_sz_Y, z_sw_Y, iI_nat, z_ix_t, z_at, Int.add_zero, Int.sub_zero, Int.zero_add, Int.mul_zero, ne_eq, Bool.false_eq_true, Bool.true_eq_false, reduceCtorEq, eq_self, and_true, true_and, and_false, false_and, and_self, not_true_eq_false, not_false_eq_true, decide_true, decide_false, ↓reduceIte, Int.reduceEq, Int.reduceNe, Int.reduceLT, Int.reduceLE, Int.reduceAdd, Int.reduceSub, Int.reduceMul, Int.reduceNeg, Nat.reduceAdd, Nat.reduceEqDiff, Nat.reduceBEq, ↓z_x_eq, z_g_t, z_bI_s, z_bL_s, z_bR_s, z_bV_s, Int.cast_ofNat_Int, beq_self_eq_true, Bool.and_true, Bool.true_and, Bool.and_self, Bool.or_true, Bool.true_or, Bool.false_and, Bool.and_false, Bool.false_or, Bool.or_false, Bool.not_false, Bool.not_true, if_true, if_false, ite_true, ite_false, z_up_eq, z_up_app, z_ro_eq, p_isIn, c1, c2, zb_t, r0, r1, c4, e, z_up_up]
      refine ok_ret ⟨by first | rfl | (congr 2; omega), _, s, rfl, ?_, ?_⟩
      · have hA : ∀ k, k ≠ 0 → k ≠ 12 + 2 * A 0 → k ≠ 12 + 2 * A 0 + 1 → z_ro (z_ro (z_ro A (12 + 2 * A 0) b) (12 + 2 * A 0 + 1) l) 0 (A 0 + 1) k = A k := fun k a e f => by rw [z_ro_ne _ _ a, z_ro_ne _ _ f, z_ro_ne _ _ e]
        have hA0 : z_ro (z_ro (z_ro A (12 + 2 * A 0) b) (12 + 2 * A 0 + 1) l) 0 (A 0 + 1) 0 = A 0 + 1 := z_ro_eq _ _ _
        have hAb : z_ro (z_ro (z_ro A (12 + 2 * A 0) b) (12 + 2 * A 0 + 1) l) 0 (A 0 + 1) (12 + 2 * A 0) = b := by rw [z_ro_ne _ _ (by omega), z_ro_ne _ _ (by omega), z_ro_eq]
        have hAl : z_ro (z_ro (z_ro A (12 + 2 * A 0) b) (12 + 2 * A 0 + 1) l) 0 (A 0 + 1) (12 + 2 * A 0 + 1) = l := by rw [z_ro_ne _ _ (by omega), z_ro_eq]
        generalize z_ro (z_ro (z_ro A (12 + 2 * A 0) b) (12 + 2 * A 0 + 1) l) 0 (A 0 + 1) = A' at *
        obtain ⟨hM, hI, ⟨h1, h2, h3, h4, h5, h6, h7, h8⟩, ⟨o1, o2, o3, o4⟩, ⟨t1, t2, t3, t4⟩, hS⟩ := hC
        have e : ∀ k, 32 ≤ k → A' k = A k := fun k a => hA k (by omega) (by omega) (by omega)
        have e2 : ∀ k, 1 ≤ k → k < 12 → A' k = A k := fun k a b => hA k (by omega) (by omega) (by omega)
        refine ⟨?_, ?_, ?_, ?_, ?_, ?_⟩
        · unfold m_ok
          rw [hA0, e2 1 (by omega) (by omega), e2 2 (by omega) (by omega), e2 3 (by omega) (by omega), e2 4 (by omega) (by omega), e2 5 (by omega) (by omega), e2 6 (by omega) (by omega), e2 7 (by omega) (by omega), e2 8 (by omega) (by omega), e2 9 (by omega) (by omega), e2 10 (by omega) (by omega), e2 11 (by omega) (by omega)]
          refine ⟨by omega, m1, m2, m3, m4, m5, m6, m7, m8, m9, m10, m11, fun k a f => ?_, fun p a f => ?_, fun k a f => ?_, fun k a f => ?_, fun k a f => ?_, fun k a f => ?_⟩
          · by_cases g : k = A 0
            · rw [g, hAb, hAl]; exact ⟨c1, c2⟩
            · rw [hA _ (by omega) (by omega) (by omega), hA _ (by omega) (by omega) (by omega)]; exact ms k a (by omega)
          · rw [e _ (by omega), e _ (by omega), e _ (by omega), e _ (by omega), e _ (by omega)]
            have := mp p a f
            exact ⟨this.1, this.2.1, this.2.2.1, by omega, this.2.2.2.2⟩
          · rw [e _ (by omega), e _ (by omega)]; exact mn k a f
          · rw [e _ (by omega), e _ (by omega)]; exact mc k a f
          · rw [e _ (by omega), e _ (by omega)]; exact mb k a f
          · rw [e _ (by omega), e _ (by omega), e _ (by omega)]; exact me k a f
        · intro p p' a b a' b' f
          rw [e2 1 (by omega) (by omega)] at b b'
          rw [e _ (by omega), e _ (by omega)] at f
          rw [e _ (by omega)]
          exact hI p p' a b a' b' f
        · unfold c_hs
          dsimp only
          simp only [Nat.reduceAdd, z_up_app, Nat.reduceEqDiff, ↓reduceIte]
          rw [hA0, e2 1 (by omega) (by omega), e2 2 (by omega) (by omega), e2 5 (by omega) (by omega), e2 6 (by omega) (by omega)]
          refine ⟨z_ro_eq _ _ _, by rw [z_ro_ne _ _ (by omega)]; exact h2, by rw [z_ro_ne _ _ (by omega)]; exact h3, by rw [z_ro_ne _ _ (by omega)]; exact h4, by rw [z_ro_ne _ _ (by omega)]; exact h5, fun k a f => ?_, fun k a f => ?_, fun k a f => ?_⟩
          · by_cases g : k = A 0
            · rw [g, z_ro_eq, z_ro_eq, hAb, hAl]; exact ⟨rfl, rfl⟩
            · rw [z_ro_ne _ _ g, z_ro_ne _ _ g, hA _ (by omega) (by omega) (by omega), hA _ (by omega) (by omega) (by omega)]; exact h6 k a (by omega)
          · rw [e _ (by omega), e _ (by omega), e _ (by omega)]; exact h7 k a f
          · rw [e _ (by omega), e _ (by omega)]; exact h8 k a f
        · unfold c_mo
          dsimp only
          simp only [Nat.reduceAdd, z_up_app, Nat.reduceEqDiff, ↓reduceIte]
          rw [e2 8 (by omega) (by omega), e2 3 (by omega) (by omega), e2 4 (by omega) (by omega), e2 11 (by omega) (by omega), e2 1 (by omega) (by omega)]
          refine ⟨o1, fun k a f => ?_, o3, fun k a f => ?_⟩
          · rw [e _ (by omega), e _ (by omega)]; exact o2 k a f
          · rw [e _ (by omega), e _ (by omega)]; exact o4 k a f
        · unfold c_to
          dsimp only
          simp only [Nat.reduceAdd, z_up_app, Nat.reduceEqDiff, ↓reduceIte]
          rw [e2 9 (by omega) (by omega), e2 10 (by omega) (by omega)]
          refine ⟨t1, fun k a f => ?_, t3, fun k a f => ?_⟩
          · rw [e _ (by omega), e _ (by omega)]; exact t2 k a f
          · rw [e _ (by omega), e _ (by omega), e _ (by omega)]; exact t4 k a f
        · exact sp_mono hS rfl rfl (e2 7 (by omega) (by omega)) (fun k a => e k (by omega)) (e2 11 (by omega) (by omega)) (by omega) (by rw [e2 1 (by omega) (by omega)]; omega)
      · rw [z_ro_ne _ _ (by omega), z_ro_ne _ _ (by omega), z_ro_ne _ _ (by omega)]
  · refine dd_same (iI (-1)) (fun h => h.elim) (fun s => ?_) ?_
    · rw [e_H_addSeat]
      by_cases d1 : 0 ≤ b ∧ b ≤ 3
      · by_cases d2 : 0 ≤ l ∧ l ≤ 9
        · have d3 : (G 11 0 < 10) = False := eq_false (by omega)
          simp -implicitDefEqProofs (disch := first | assumption | omega | rfl | (simp only [z_up_eq, z_up_app, ↓reduceIte, Nat.reduceEqDiff]; omega)) only [z_lit0, z_lit1, z_lit2, z_litl, iI_add, iI_sub, iI_mul, iI_neg, iI_and, iI_or, iI_xor, iI_shl, iI_shr, iI_ushr, iI_div, iI_b, iI_c, iI_i2l, lI_l2i, lI_add, lI_sub, lI_mul, lI_neg, lI_div, lI_or, lI_and, lI_shl, lI_shr, nI_iI, lg_lt0, lg_gt0, lg_eq0, i_ne0', l_ne0', iI_lt, iI_le, iI_eq, lI_lt, lI_le, lI_eq, zb_0, zb_fit, zb_fit0, zb_fit1, i_one_zero, i_w_in, z_tb0, z_tb1, z_tb2, z_tb3, z_tb4, z_tb5, z_tb6, z_tb7, z_tb8, z_tbl, z_tu0, z_tu1, z_tu2, z_i_62, z_i_63, z_i_86, z_i_88, z_l_Y, z_ui_62, z_ui_63, z_ui_86, z_ui_88, z_ul_Y, z_sz_Y, z_sw_Y, iI_nat, z_ix_t, z_at, Int.add_zero, Int.sub_zero, Int.zero_add, Int.mul_zero, ne_eq, Bool.false_eq_true, Bool.true_eq_false, reduceCtorEq, eq_self, and_true, true_and, and_false, false_and, and_self, not_true_eq_false, not_false_eq_true, decide_true, decide_false, ↓reduceIte, Int.reduceEq, Int.reduceNe, Int.reduceLT, Int.reduceLE, Int.reduceAdd, Int.reduceSub, Int.reduceMul, Int.reduceNeg, Nat.reduceAdd, Nat.reduceEqDiff, Nat.reduceBEq, ↓z_x_eq, z_g_t, z_bI_s, z_bL_s, z_bR_s, z_bV_s, Int.cast_ofNat_Int, beq_self_eq_true, Bool.and_true, Bool.true_and, Bool.and_self, Bool.or_true, Bool.true_or, Bool.false_and, Bool.and_false, Bool.false_or, Bool.or_false, Bool.not_false, Bool.not_true, if_true, if_false, ite_true, ite_false, z_up_eq, z_up_app, z_ro_eq, p_within, d1, d2, zb_t, d3]
          exact ok_q
        · simp -implicitDefEqProofs (disch := first | assumption | omega | rfl | (simp only [z_up_eq, z_up_app, ↓reduceIte, Nat.reduceEqDiff]; omega)) only [z_lit0, z_lit1, z_lit2, z_litl, iI_add, iI_sub, iI_mul, iI_neg, iI_and, iI_or, iI_xor, iI_shl, iI_shr, iI_ushr, iI_div, iI_b, iI_c, iI_i2l, lI_l2i, lI_add, lI_sub, lI_mul, lI_neg, lI_div, lI_or, lI_and, lI_shl, lI_shr, nI_iI, lg_lt0, lg_gt0, lg_eq0, i_ne0', l_ne0', iI_lt, iI_le, iI_eq, lI_lt, lI_le, lI_eq, zb_0, zb_fit, zb_fit0, zb_fit1, i_one_zero, i_w_in, z_tb0, z_tb1, z_tb2, z_tb3, z_tb4, z_tb5, z_tb6, z_tb7, z_tb8, z_tbl, z_tu0, z_tu1, z_tu2, z_i_62, z_i_63, z_i_86, z_i_88, z_l_Y, z_ui_62, z_ui_63, z_ui_86, z_ui_88, z_ul_Y, z_sz_Y, z_sw_Y, iI_nat, z_ix_t, z_at, Int.add_zero, Int.sub_zero, Int.zero_add, Int.mul_zero, ne_eq, Bool.false_eq_true, Bool.true_eq_false, reduceCtorEq, eq_self, and_true, true_and, and_false, false_and, and_self, not_true_eq_false, not_false_eq_true, decide_true, decide_false, ↓reduceIte, Int.reduceEq, Int.reduceNe, Int.reduceLT, Int.reduceLE, Int.reduceAdd, Int.reduceSub, Int.reduceMul, Int.reduceNeg, Nat.reduceAdd, Nat.reduceEqDiff, Nat.reduceBEq, ↓z_x_eq, z_g_t, z_bI_s, z_bL_s, z_bR_s, z_bV_s, Int.cast_ofNat_Int, beq_self_eq_true, Bool.and_true, Bool.true_and, Bool.and_self, Bool.or_true, Bool.true_or, Bool.false_and, Bool.and_false, Bool.false_or, Bool.or_false, Bool.not_false, Bool.not_true, if_true, if_false, ite_true, ite_false, z_up_eq, z_up_app, z_ro_eq, p_within, d1, d2, zb_t, zb_f]
          exact ok_q
      · simp -implicitDefEqProofs (disch := first | assumption | omega | rfl | (simp only [z_up_eq, z_up_app, ↓reduceIte, Nat.reduceEqDiff]; omega)) only [z_lit0, z_lit1, z_lit2, z_litl, iI_add, iI_sub, iI_mul, iI_neg, iI_and, iI_or, iI_xor, iI_shl, iI_shr, iI_ushr, iI_div, iI_b, iI_c, iI_i2l, lI_l2i, lI_add, lI_sub, lI_mul, lI_neg, lI_div, lI_or, lI_and, lI_shl, lI_shr, nI_iI, lg_lt0, lg_gt0, lg_eq0, i_ne0', l_ne0', iI_lt, iI_le, iI_eq, lI_lt, lI_le, lI_eq, zb_0, zb_fit, zb_fit0, zb_fit1, i_one_zero, i_w_in, z_tb0, z_tb1, z_tb2, z_tb3, z_tb4, z_tb5, z_tb6, z_tb7, z_tb8, z_tbl, z_tu0, z_tu1, z_tu2, z_i_62, z_i_63, z_i_86, z_i_88, z_l_Y, z_ui_62, z_ui_63, z_ui_86, z_ui_88, z_ul_Y, z_sz_Y, z_sw_Y, iI_nat, z_ix_t, z_at, Int.add_zero, Int.sub_zero, Int.zero_add, Int.mul_zero, ne_eq, Bool.false_eq_true, Bool.true_eq_false, reduceCtorEq, eq_self, and_true, true_and, and_false, false_and, and_self, not_true_eq_false, not_false_eq_true, decide_true, decide_false, ↓reduceIte, Int.reduceEq, Int.reduceNe, Int.reduceLT, Int.reduceLE, Int.reduceAdd, Int.reduceSub, Int.reduceMul, Int.reduceNeg, Nat.reduceAdd, Nat.reduceEqDiff, Nat.reduceBEq, ↓z_x_eq, z_g_t, z_bI_s, z_bL_s, z_bR_s, z_bV_s, Int.cast_ofNat_Int, beq_self_eq_true, Bool.and_true, Bool.true_and, Bool.and_self, Bool.or_true, Bool.true_or, Bool.false_and, Bool.and_false, Bool.false_or, Bool.or_false, Bool.not_false, Bool.not_true, if_true, if_false, ite_true, ite_false, z_up_eq, z_up_app, z_ro_eq, p_within, d1, zb_f]
        exact ok_q
    · intro A Gm s hC e hq e83
      have q := (dw_h hC).1
      have b1 := hC.1.1
      rw [q] at c1
      rw [e_M_seat]
      by_cases d1 : 0 ≤ b ∧ b ≤ 3
      · by_cases d2 : 0 ≤ l ∧ l ≤ 9
        · have d3 : (A 0 = 10) = True := eq_true (by omega)
          simp -implicitDefEqProofs (disch := first | assumption | omega | rfl | (simp only [z_up_eq, z_up_app, ↓reduceIte, Nat.reduceEqDiff]; omega)) only [z_lit0, z_lit1, z_lit2, z_litl, iI_add, iI_sub, iI_mul, iI_neg, iI_and, iI_or, iI_xor, iI_shl, iI_shr, iI_ushr, iI_div, iI_b, iI_c, iI_i2l, lI_l2i, lI_add, lI_sub, lI_mul, lI_neg, lI_div, lI_or, lI_and, lI_shl, lI_shr, nI_iI, lg_lt0, lg_gt0, lg_eq0, i_ne0', l_ne0', iI_lt, iI_le, iI_eq, lI_lt, lI_le, lI_eq, zb_0, zb_fit, zb_fit0, zb_fit1, i_one_zero, i_w_in, z_tb0, z_tb1, z_tb2, z_tb3, z_tb4, z_tb5, z_tb6, z_tb7, z_tb8, z_tbl, z_tu0, z_tu1, z_tu2, z_i_62, z_i_63, z_i_86, z_i_88, z_l_Y, z_ui_62, z_ui_63, z_ui_86, z_ui_88, z_ul_Y, z_sz_Y, z_sw_Y, iI_nat, z_ix_t, z_at, Int.add_zero, Int.sub_zero, Int.zero_add, Int.mul_zero, ne_eq, Bool.false_eq_true, Bool.true_eq_false, reduceCtorEq, eq_self, and_true, true_and, and_false, false_and, and_self, not_true_eq_false, not_false_eq_true, decide_true, decide_false, ↓reduceIte, Int.reduceEq, Int.reduceNe, Int.reduceLT, Int.reduceLE, Int.reduceAdd, Int.reduceSub, Int.reduceMul, Int.reduceNeg, Nat.reduceAdd, Nat.reduceEqDiff, Nat.reduceBEq, ↓z_x_eq, z_g_t, z_bI_s, z_bL_s, z_bR_s, z_bV_s, Int.cast_ofNat_Int, beq_self_eq_true, Bool.and_true, Bool.true_and, Bool.and_self, Bool.or_true, Bool.true_or, Bool.false_and, Bool.and_false, Bool.false_or, Bool.or_false, Bool.not_false, Bool.not_true, if_true, if_false, ite_true, ite_false, z_up_eq, z_up_app, z_ro_eq, p_isIn, d1, d2, zb_t, d3, e]
          exact ok_q
        · simp -implicitDefEqProofs (disch := first | assumption | omega | rfl | (simp only [z_up_eq, z_up_app, ↓reduceIte, Nat.reduceEqDiff]; omega)) only [z_lit0, z_lit1, z_lit2, z_litl, iI_add, iI_sub, iI_mul, iI_neg, iI_and, iI_or, iI_xor, iI_shl, iI_shr, iI_ushr, iI_div, iI_b, iI_c, iI_i2l, lI_l2i, lI_add, lI_sub, lI_mul, lI_neg, lI_div, lI_or, lI_and, lI_shl, lI_shr, nI_iI, lg_lt0, lg_gt0, lg_eq0, i_ne0', l_ne0', iI_lt, iI_le, iI_eq, lI_lt, lI_le, lI_eq, zb_0, zb_fit, zb_fit0, zb_fit1, i_one_zero, i_w_in, z_tb0, z_tb1, z_tb2, z_tb3, z_tb4, z_tb5, z_tb6, z_tb7, z_tb8, z_tbl, z_tu0, z_tu1, z_tu2, z_i_62, z_i_63, z_i_86, z_i_88, z_l_Y, z_ui_62, z_ui_63, z_ui_86, z_ui_88, z_ul_Y, z_sz_Y, z_sw_Y, iI_nat, z_ix_t, z_at, Int.add_zero, Int.sub_zero, Int.zero_add, Int.mul_zero, ne_eq, Bool.false_eq_true, Bool.true_eq_false, reduceCtorEq, eq_self, and_true, true_and, and_false, false_and, and_self, not_true_eq_false, not_false_eq_true, decide_true, decide_false, ↓reduceIte, Int.reduceEq, Int.reduceNe, Int.reduceLT, Int.reduceLE, Int.reduceAdd, Int.reduceSub, Int.reduceMul, Int.reduceNeg, Nat.reduceAdd, Nat.reduceEqDiff, Nat.reduceBEq, ↓z_x_eq, z_g_t, z_bI_s, z_bL_s, z_bR_s, z_bV_s, Int.cast_ofNat_Int, beq_self_eq_true, Bool.and_true, Bool.true_and, Bool.and_self, Bool.or_true, Bool.true_or, Bool.false_and, Bool.and_false, Bool.false_or, Bool.or_false, Bool.not_false, Bool.not_true, if_true, if_false, ite_true, ite_false, z_up_eq, z_up_app, z_ro_eq, p_isIn, d1, d2, zb_t, zb_f]
          exact ok_q
      · simp -implicitDefEqProofs (disch := first | assumption | omega | rfl | (simp only [z_up_eq, z_up_app, ↓reduceIte, Nat.reduceEqDiff]; omega)) only [z_lit0, z_lit1, z_lit2, z_litl, iI_add, iI_sub, iI_mul, iI_neg, iI_and, iI_or, iI_xor, iI_shl, iI_shr, iI_ushr, iI_div, iI_b, iI_c, iI_i2l, lI_l2i, lI_add, lI_sub, lI_mul, lI_neg, lI_div, lI_or, lI_and, lI_shl, lI_shr, nI_iI, lg_lt0, lg_gt0, lg_eq0, i_ne0', l_ne0', iI_lt, iI_le, iI_eq, lI_lt, lI_le, lI_eq, zb_0, zb_fit, zb_fit0, zb_fit1, i_one_zero, i_w_in, z_tb0, z_tb1, z_tb2, z_tb3, z_tb4, z_tb5, z_tb6, z_tb7, z_tb8, z_tbl, z_tu0, z_tu1, z_tu2, z_i_62, z_i_63, z_i_86, z_i_88, z_l_Y, z_ui_62, z_ui_63, z_ui_86, z_ui_88, z_ul_Y, z_sz_Y, z_sw_Y, iI_nat, z_ix_t, z_at, Int.add_zero, Int.sub_zero, Int.zero_add, Int.mul_zero, ne_eq, Bool.false_eq_true, Bool.true_eq_false, reduceCtorEq, eq_self, and_true, true_and, and_false, false_and, and_self, not_true_eq_false, not_false_eq_true, decide_true, decide_false, ↓reduceIte, Int.reduceEq, Int.reduceNe, Int.reduceLT, Int.reduceLE, Int.reduceAdd, Int.reduceSub, Int.reduceMul, Int.reduceNeg, Nat.reduceAdd, Nat.reduceEqDiff, Nat.reduceBEq, ↓z_x_eq, z_g_t, z_bI_s, z_bL_s, z_bR_s, z_bV_s, Int.cast_ofNat_Int, beq_self_eq_true, Bool.and_true, Bool.true_and, Bool.and_self, Bool.or_true, Bool.true_or, Bool.false_and, Bool.and_false, Bool.false_or, Bool.or_false, Bool.not_false, Bool.not_true, if_true, if_false, ite_true, ite_false, z_up_eq, z_up_app, z_ro_eq, p_isIn, d1, zb_f]
        exact ok_q
theorem d_note (d b_ : Nat) {T : ZT} {G : ZG} (hE : ∃ A, c_nw A G) {b l : Int} (hb : i_in b) (hl : i_in l) : z_dd False T G (fun σ => z_call (d + 2) 25 [vr 11, vi (iI b), vi (iI l)] σ) (fun σ => z_call (b_ + 2) 27 [vr 80, vi (iI b), vi (iI l)] σ) := by
  obtain ⟨A0, hC0⟩ := hE
  have q0 := (dw_h hC0).2.2.1
  have b0 := hC0.1.2.2.1
  by_cases c1 : (0 ≤ b ∧ b ≤ 9999) ∧ (0 ≤ l ∧ l ≤ 99) ∧ G 11 7 < 12
  · obtain ⟨c1, c2, c3⟩ := c1
    have c3' : (G 11 7 < 12) = True := eq_true c3
    refine ⟨iI (G 11 7), z_up (z_up (z_up G 11 (z_ro (G 11) 7 (G 11 7 + 1))) 17 (z_ro (G 17) (G 11 7) b)) 18 (z_ro (G 18) (G 11 7) l), fun h => h.elim, fun s => ?_, fun r a => ?_, ?_⟩
    · dsimp only
      rw [e_H_addNote]
      simp -implicitDefEqProofs (disch := first | assumption | omega | rfl | (simp only [z_up_eq, z_up_app, ↓reduceIte, Nat.reduceEqDiff]; omega)) only [z_lit0, z_lit1, z_lit2, z_litl, iI_add, iI_sub, iI_mul, iI_neg, iI_and, iI_or, iI_xor, iI_shl, iI_shr, iI_ushr, iI_div, iI_b, iI_c, iI_i2l, lI_l2i, lI_add, lI_sub, lI_mul, lI_neg, lI_div, lI_or, lI_and, lI_shl, lI_shr, nI_iI, lg_lt0, lg_gt0, lg_eq0, i_ne0', l_ne0', iI_lt, iI_le, iI_eq, lI_lt, lI_le, lI_eq, zb_0, zb_fit, zb_fit0, zb_fit1, i_one_zero, i_w_in, z_tb0, z_tb1, z_tb2, z_tb3, z_tb4, z_tb5, z_tb6, z_tb7, z_tb8, z_tbl, z_tu0, z_tu1, z_tu2, z_i_62, z_i_63, z_i_86, z_i_88, z_l_Y, z_ui_62, z_ui_63, z_ui_86, z_ui_88, z_ul_Y, z_sz_Y, z_sw_Y, iI_nat, z_ix_t, z_at, Int.add_zero, Int.sub_zero, Int.zero_add, Int.mul_zero, ne_eq, Bool.false_eq_true, Bool.true_eq_false, reduceCtorEq, eq_self, and_true, true_and, and_false, false_and, and_self, not_true_eq_false, not_false_eq_true, decide_true, decide_false, ↓reduceIte, Int.reduceEq, Int.reduceNe, Int.reduceLT, Int.reduceLE, Int.reduceAdd, Int.reduceSub, Int.reduceMul, Int.reduceNeg, Nat.reduceAdd, Nat.reduceEqDiff, Nat.reduceBEq, ↓z_x_eq, z_g_t, z_bI_s, z_bL_s, z_bR_s, z_bV_s, Int.cast_ofNat_Int, beq_self_eq_true, Bool.and_true, Bool.true_and, Bool.and_self, Bool.or_true, Bool.true_or, Bool.false_and, Bool.and_false, Bool.false_or, Bool.or_false, Bool.not_false, Bool.not_true, if_true, if_false, ite_true, ite_false, z_up_eq, z_up_app, z_ro_eq, p_within, c1, c2, zb_t, c3', z_up_up, z_up_cm]
      exact ok_q' (by congr 2; omega) rfl
    · rw [z_up_ne _ _ (show r ≠ 18 by omega), z_up_ne _ _ (show r ≠ 17 by omega), z_up_ne _ _ (show r ≠ 11 by omega)]
    · intro A Gm s hC e hq e83
      obtain ⟨m0, m1, m2, m3, m4, m5, m6, m7, m8, m9, m10, m11, ms, mp, mn, mc, mb, me⟩ := hC.1
      have q := (dw_h hC).2.2.1
      rw [q] at c3 ⊢
      have c4 : (A 2 = 12) = False := eq_false (by omega)
      dsimp only
      rw [e_M_note]
      have r0 : z_ro (z_ro (A) (82 + 2 * A 2) b) (82 + 2 * A 2 + 1) l 2 = A 2 := by rw [z_ro_ne _ _ (by omega), z_ro_ne _ _ (by omega)]
      have r1 : z_ro (A) (82 + 2 * A 2) b 2 = A 2 := z_ro_ne _ _ (by omega)
      simp -implicitDefEqProofs (disch := first | assumption | omega | rfl | (simp only [z_up_eq, z_up_app, ↓reduceIte, Nat.reduceEqDiff]; omega)) only [z_lit0, z_lit1, z_lit2, z_litl, iI_add, iI_sub, iI_mul, iI_neg, iI_and, iI_or, iI_xor, iI_shl, iI_shr, iI_ushr, iI_div, iI_b, iI_c, iI_i2l, lI_l2i, lI_add, lI_sub, lI_mul, lI_neg, lI_div, lI_or, lI_and, lI_shl, lI_shr, nI_iI, lg_lt0, lg_gt0, lg_eq0, i_ne0', l_ne0', iI_lt, iI_le, iI_eq, lI_lt, lI_le, lI_eq, zb_0, zb_fit, zb_fit0, zb_fit1, i_one_zero, i_w_in, z_tb0, z_tb1, z_tb2, z_tb3, z_tb4, z_tb5, z_tb6, z_tb7, z_tb8, z_tbl, z_tu0, z_tu1, z_tu2, z_i_62, z_i_63, z_i_86, z_i_88, z_l_Y, z_ui_62, z_ui_63, z_ui_86, z_ui_88, z_ul_Y, z_sz_Y, z_sw_Y, iI_nat, z_ix_t, z_at, Int.add_zero, Int.sub_zero, Int.zero_add, Int.mul_zero, ne_eq, Bool.false_eq_true, Bool.true_eq_false, reduceCtorEq, eq_self, and_true, true_and, and_false, false_and, and_self, not_true_eq_false, not_false_eq_true, decide_true, decide_false, ↓reduceIte, Int.reduceEq, Int.reduceNe, Int.reduceLT, Int.reduceLE, Int.reduceAdd, Int.reduceSub, Int.reduceMul, Int.reduceNeg, Nat.reduceAdd, Nat.reduceEqDiff, Nat.reduceBEq, ↓z_x_eq, z_g_t, z_bI_s, z_bL_s, z_bR_s, z_bV_s, Int.cast_ofNat_Int, beq_self_eq_true, Bool.and_true, Bool.true_and, Bool.and_self, Bool.or_true, Bool.true_or, Bool.false_and, Bool.and_false, Bool.false_or, Bool.or_false, Bool.not_false, Bool.not_true, if_true, if_false, ite_true, ite_false, z_up_eq, z_up_app, z_ro_eq, p_isIn, c1, c2, zb_t, r0, r1, c4, e, z_up_up]
      refine ok_ret ⟨by first | rfl | (congr 2; omega), _, s, rfl, ?_, ?_⟩
      · have hA : ∀ k, k ≠ 2 → k ≠ 82 + 2 * A 2 → k ≠ 82 + 2 * A 2 + 1 → z_ro (z_ro (z_ro A (82 + 2 * A 2) b) (82 + 2 * A 2 + 1) l) 2 (A 2 + 1) k = A k := fun k a e f => by rw [z_ro_ne _ _ a, z_ro_ne _ _ f, z_ro_ne _ _ e]
        have hA0 : z_ro (z_ro (z_ro A (82 + 2 * A 2) b) (82 + 2 * A 2 + 1) l) 2 (A 2 + 1) 2 = A 2 + 1 := z_ro_eq _ _ _
        have hAb : z_ro (z_ro (z_ro A (82 + 2 * A 2) b) (82 + 2 * A 2 + 1) l) 2 (A 2 + 1) (82 + 2 * A 2) = b := by rw [z_ro_ne _ _ (by omega), z_ro_ne _ _ (by omega), z_ro_eq]
        have hAl : z_ro (z_ro (z_ro A (82 + 2 * A 2) b) (82 + 2 * A 2 + 1) l) 2 (A 2 + 1) (82 + 2 * A 2 + 1) = l := by rw [z_ro_ne _ _ (by omega), z_ro_eq]
        generalize z_ro (z_ro (z_ro A (82 + 2 * A 2) b) (82 + 2 * A 2 + 1) l) 2 (A 2 + 1) = A' at *
        obtain ⟨hM, hI, ⟨h1, h2, h3, h4, h5, h6, h7, h8⟩, ⟨o1, o2, o3, o4⟩, ⟨t1, t2, t3, t4⟩, hS⟩ := hC
        have e : ∀ k, (k < 82 ∧ k ≠ 2) ∨ 106 ≤ k → A' k = A k := fun k a => hA k (by omega) (by omega) (by omega)
        refine ⟨?_, ?_, ?_, ?_, ?_, ?_⟩
        · unfold m_ok
          rw [hA0, e 0 (by omega), e 1 (by omega), e 3 (by omega), e 4 (by omega), e 5 (by omega), e 6 (by omega), e 7 (by omega), e 8 (by omega), e 9 (by omega), e 10 (by omega), e 11 (by omega)]
          refine ⟨m0, m1, by omega, m3, m4, m5, m6, m7, m8, m9, m10, m11, fun k a f => ?_, fun p a f => ?_, fun k a f => ?_, fun k a f => ?_, fun k a f => ?_, fun k a f => ?_⟩
          · rw [e _ (by omega), e _ (by omega)]; exact ms k a f
          · rw [e _ (by omega), e _ (by omega), e _ (by omega), e _ (by omega), e _ (by omega)]; exact mp p a f
          · by_cases g : k = A 2
            · rw [g, hAb, hAl]; exact ⟨c1, c2⟩
            · rw [hA _ (by omega) (by omega) (by omega), hA _ (by omega) (by omega) (by omega)]; exact mn k a (by omega)
          · rw [e _ (by omega), e _ (by omega)]; exact mc k a f
          · rw [e _ (by omega), e _ (by omega)]; exact mb k a f
          · rw [e _ (by omega), e _ (by omega), e _ (by omega)]; exact me k a f
        · intro p p' a b a' b' f
          rw [e 1 (by omega)] at b b'
          rw [e _ (by omega), e _ (by omega)] at f
          rw [e _ (by omega)]
          exact hI p p' a b a' b' f
        · unfold c_hs
          dsimp only
          simp only [Nat.reduceAdd, z_up_app, Nat.reduceEqDiff, ↓reduceIte]
          rw [hA0, e 0 (by omega), e 1 (by omega), e 5 (by omega), e 6 (by omega)]
          refine ⟨by rw [z_ro_ne _ _ (by omega)]; exact h1, by rw [z_ro_ne _ _ (by omega)]; exact h2, z_ro_eq _ _ _, by rw [z_ro_ne _ _ (by omega)]; exact h4, by rw [z_ro_ne _ _ (by omega)]; exact h5, fun k a f => ?_, fun k a f => ?_, fun k a f => ?_⟩
          · rw [e _ (by omega), e _ (by omega)]; exact h6 k a f
          · rw [e _ (by omega), e _ (by omega), e _ (by omega)]; exact h7 k a f
          · by_cases g : k = A 2
            · rw [g, z_ro_eq, z_ro_eq, hAb, hAl]; exact ⟨rfl, rfl⟩
            · rw [z_ro_ne _ _ g, z_ro_ne _ _ g, hA _ (by omega) (by omega) (by omega), hA _ (by omega) (by omega) (by omega)]; exact h8 k a (by omega)
        · unfold c_mo
          dsimp only
          simp only [Nat.reduceAdd, z_up_app, Nat.reduceEqDiff, ↓reduceIte]
          rw [e 8 (by omega), e 3 (by omega), e 4 (by omega), e 11 (by omega), e 1 (by omega)]
          refine ⟨o1, fun k a f => ?_, o3, fun k a f => ?_⟩
          · rw [e _ (by omega), e _ (by omega)]; exact o2 k a f
          · rw [e _ (by omega), e _ (by omega)]; exact o4 k a f
        · unfold c_to
          dsimp only
          simp only [Nat.reduceAdd, z_up_app, Nat.reduceEqDiff, ↓reduceIte]
          rw [e 9 (by omega), e 10 (by omega)]
          refine ⟨t1, fun k a f => ?_, t3, fun k a f => ?_⟩
          · rw [e _ (by omega), e _ (by omega)]; exact t2 k a f
          · rw [e _ (by omega), e _ (by omega), e _ (by omega)]; exact t4 k a f
        · exact sp_mono hS rfl rfl (e 7 (by omega)) (fun k a => e k (by omega)) (e 11 (by omega)) (by rw [e 0 (by omega)]; omega) (by rw [e 1 (by omega)]; omega)
      · rw [z_ro_ne _ _ (by omega), z_ro_ne _ _ (by omega), z_ro_ne _ _ (by omega)]
  · refine dd_same (iI (-1)) (fun h => h.elim) (fun s => ?_) ?_
    · rw [e_H_addNote]
      by_cases d1 : 0 ≤ b ∧ b ≤ 9999
      · by_cases d2 : 0 ≤ l ∧ l ≤ 99
        · have d3 : (G 11 7 < 12) = False := eq_false (by omega)
          simp -implicitDefEqProofs (disch := first | assumption | omega | rfl | (simp only [z_up_eq, z_up_app, ↓reduceIte, Nat.reduceEqDiff]; omega)) only [z_lit0, z_lit1, z_lit2, z_litl, iI_add, iI_sub, iI_mul, iI_neg, iI_and, iI_or, iI_xor, iI_shl, iI_shr, iI_ushr, iI_div, iI_b, iI_c, iI_i2l, lI_l2i, lI_add, lI_sub, lI_mul, lI_neg, lI_div, lI_or, lI_and, lI_shl, lI_shr, nI_iI, lg_lt0, lg_gt0, lg_eq0, i_ne0', l_ne0', iI_lt, iI_le, iI_eq, lI_lt, lI_le, lI_eq, zb_0, zb_fit, zb_fit0, zb_fit1, i_one_zero, i_w_in, z_tb0, z_tb1, z_tb2, z_tb3, z_tb4, z_tb5, z_tb6, z_tb7, z_tb8, z_tbl, z_tu0, z_tu1, z_tu2, z_i_62, z_i_63, z_i_86, z_i_88, z_l_Y, z_ui_62, z_ui_63, z_ui_86, z_ui_88, z_ul_Y, z_sz_Y, z_sw_Y, iI_nat, z_ix_t, z_at, Int.add_zero, Int.sub_zero, Int.zero_add, Int.mul_zero, ne_eq, Bool.false_eq_true, Bool.true_eq_false, reduceCtorEq, eq_self, and_true, true_and, and_false, false_and, and_self, not_true_eq_false, not_false_eq_true, decide_true, decide_false, ↓reduceIte, Int.reduceEq, Int.reduceNe, Int.reduceLT, Int.reduceLE, Int.reduceAdd, Int.reduceSub, Int.reduceMul, Int.reduceNeg, Nat.reduceAdd, Nat.reduceEqDiff, Nat.reduceBEq, ↓z_x_eq, z_g_t, z_bI_s, z_bL_s, z_bR_s, z_bV_s, Int.cast_ofNat_Int, beq_self_eq_true, Bool.and_true, Bool.true_and, Bool.and_self, Bool.or_true, Bool.true_or, Bool.false_and, Bool.and_false, Bool.false_or, Bool.or_false, Bool.not_false, Bool.not_true, if_true, if_false, ite_true, ite_false, z_up_eq, z_up_app, z_ro_eq, p_within, d1, d2, zb_t, d3]
          exact ok_q
        · simp -implicitDefEqProofs (disch := first | assumption | omega | rfl | (simp only [z_up_eq, z_up_app, ↓reduceIte, Nat.reduceEqDiff]; omega)) only [z_lit0, z_lit1, z_lit2, z_litl, iI_add, iI_sub, iI_mul, iI_neg, iI_and, iI_or, iI_xor, iI_shl, iI_shr, iI_ushr, iI_div, iI_b, iI_c, iI_i2l, lI_l2i, lI_add, lI_sub, lI_mul, lI_neg, lI_div, lI_or, lI_and, lI_shl, lI_shr, nI_iI, lg_lt0, lg_gt0, lg_eq0, i_ne0', l_ne0', iI_lt, iI_le, iI_eq, lI_lt, lI_le, lI_eq, zb_0, zb_fit, zb_fit0, zb_fit1, i_one_zero, i_w_in, z_tb0, z_tb1, z_tb2, z_tb3, z_tb4, z_tb5, z_tb6, z_tb7, z_tb8, z_tbl, z_tu0, z_tu1, z_tu2, z_i_62, z_i_63, z_i_86, z_i_88, z_l_Y, z_ui_62, z_ui_63, z_ui_86, z_ui_88, z_ul_Y, z_sz_Y, z_sw_Y, iI_nat, z_ix_t, z_at, Int.add_zero, Int.sub_zero, Int.zero_add, Int.mul_zero, ne_eq, Bool.false_eq_true, Bool.true_eq_false, reduceCtorEq, eq_self, and_true, true_and, and_false, false_and, and_self, not_true_eq_false, not_false_eq_true, decide_true, decide_false, ↓reduceIte, Int.reduceEq, Int.reduceNe, Int.reduceLT, Int.reduceLE, Int.reduceAdd, Int.reduceSub, Int.reduceMul, Int.reduceNeg, Nat.reduceAdd, Nat.reduceEqDiff, Nat.reduceBEq, ↓z_x_eq, z_g_t, z_bI_s, z_bL_s, z_bR_s, z_bV_s, Int.cast_ofNat_Int, beq_self_eq_true, Bool.and_true, Bool.true_and, Bool.and_self, Bool.or_true, Bool.true_or, Bool.false_and, Bool.and_false, Bool.false_or, Bool.or_false, Bool.not_false, Bool.not_true, if_true, if_false, ite_true, ite_false, z_up_eq, z_up_app, z_ro_eq, p_within, d1, d2, zb_t, zb_f]
          exact ok_q
      · simp -implicitDefEqProofs (disch := first | assumption | omega | rfl | (simp only [z_up_eq, z_up_app, ↓reduceIte, Nat.reduceEqDiff]; omega)) only [z_lit0, z_lit1, z_lit2, z_litl, iI_add, iI_sub, iI_mul, iI_neg, iI_and, iI_or, iI_xor, iI_shl, iI_shr, iI_ushr, iI_div, iI_b, iI_c, iI_i2l, lI_l2i, lI_add, lI_sub, lI_mul, lI_neg, lI_div, lI_or, lI_and, lI_shl, lI_shr, nI_iI, lg_lt0, lg_gt0, lg_eq0, i_ne0', l_ne0', iI_lt, iI_le, iI_eq, lI_lt, lI_le, lI_eq, zb_0, zb_fit, zb_fit0, zb_fit1, i_one_zero, i_w_in, z_tb0, z_tb1, z_tb2, z_tb3, z_tb4, z_tb5, z_tb6, z_tb7, z_tb8, z_tbl, z_tu0, z_tu1, z_tu2, z_i_62, z_i_63, z_i_86, z_i_88, z_l_Y, z_ui_62, z_ui_63, z_ui_86, z_ui_88, z_ul_Y, z_sz_Y, z_sw_Y, iI_nat, z_ix_t, z_at, Int.add_zero, Int.sub_zero, Int.zero_add, Int.mul_zero, ne_eq, Bool.false_eq_true, Bool.true_eq_false, reduceCtorEq, eq_self, and_true, true_and, and_false, false_and, and_self, not_true_eq_false, not_false_eq_true, decide_true, decide_false, ↓reduceIte, Int.reduceEq, Int.reduceNe, Int.reduceLT, Int.reduceLE, Int.reduceAdd, Int.reduceSub, Int.reduceMul, Int.reduceNeg, Nat.reduceAdd, Nat.reduceEqDiff, Nat.reduceBEq, ↓z_x_eq, z_g_t, z_bI_s, z_bL_s, z_bR_s, z_bV_s, Int.cast_ofNat_Int, beq_self_eq_true, Bool.and_true, Bool.true_and, Bool.and_self, Bool.or_true, Bool.true_or, Bool.false_and, Bool.and_false, Bool.false_or, Bool.or_false, Bool.not_false, Bool.not_true, if_true, if_false, ite_true, ite_false, z_up_eq, z_up_app, z_ro_eq, p_within, d1, zb_f]
        exact ok_q
    · intro A Gm s hC e hq e83
      have q := (dw_h hC).2.2.1
      have b1 := hC.1.2.2.1
      rw [q] at c1
      rw [e_M_note]
      by_cases d1 : 0 ≤ b ∧ b ≤ 9999
      · by_cases d2 : 0 ≤ l ∧ l ≤ 99
        · have d3 : (A 2 = 12) = True := eq_true (by omega)
          simp -implicitDefEqProofs (disch := first | assumption | omega | rfl | (simp only [z_up_eq, z_up_app, ↓reduceIte, Nat.reduceEqDiff]; omega)) only [z_lit0, z_lit1, z_lit2, z_litl, iI_add, iI_sub, iI_mul, iI_neg, iI_and, iI_or, iI_xor, iI_shl, iI_shr, iI_ushr, iI_div, iI_b, iI_c, iI_i2l, lI_l2i, lI_add, lI_sub, lI_mul, lI_neg, lI_div, lI_or, lI_and, lI_shl, lI_shr, nI_iI, lg_lt0, lg_gt0, lg_eq0, i_ne0', l_ne0', iI_lt, iI_le, iI_eq, lI_lt, lI_le, lI_eq, zb_0, zb_fit, zb_fit0, zb_fit1, i_one_zero, i_w_in, z_tb0, z_tb1, z_tb2, z_tb3, z_tb4, z_tb5, z_tb6, z_tb7, z_tb8, z_tbl, z_tu0, z_tu1, z_tu2, z_i_62, z_i_63, z_i_86, z_i_88, z_l_Y, z_ui_62, z_ui_63, z_ui_86, z_ui_88, z_ul_Y, z_sz_Y, z_sw_Y, iI_nat, z_ix_t, z_at, Int.add_zero, Int.sub_zero, Int.zero_add, Int.mul_zero, ne_eq, Bool.false_eq_true, Bool.true_eq_false, reduceCtorEq, eq_self, and_true, true_and, and_false, false_and, and_self, not_true_eq_false, not_false_eq_true, decide_true, decide_false, ↓reduceIte, Int.reduceEq, Int.reduceNe, Int.reduceLT, Int.reduceLE, Int.reduceAdd, Int.reduceSub, Int.reduceMul, Int.reduceNeg, Nat.reduceAdd, Nat.reduceEqDiff, Nat.reduceBEq, ↓z_x_eq, z_g_t, z_bI_s, z_bL_s, z_bR_s, z_bV_s, Int.cast_ofNat_Int, beq_self_eq_true, Bool.and_true, Bool.true_and, Bool.and_self, Bool.or_true, Bool.true_or, Bool.false_and, Bool.and_false, Bool.false_or, Bool.or_false, Bool.not_false, Bool.not_true, if_true, if_false, ite_true, ite_false, z_up_eq, z_up_app, z_ro_eq, p_isIn, d1, d2, zb_t, d3, e]
          exact ok_q
        · simp -implicitDefEqProofs (disch := first | assumption | omega | rfl | (simp only [z_up_eq, z_up_app, ↓reduceIte, Nat.reduceEqDiff]; omega)) only [z_lit0, z_lit1, z_lit2, z_litl, iI_add, iI_sub, iI_mul, iI_neg, iI_and, iI_or, iI_xor, iI_shl, iI_shr, iI_ushr, iI_div, iI_b, iI_c, iI_i2l, lI_l2i, lI_add, lI_sub, lI_mul, lI_neg, lI_div, lI_or, lI_and, lI_shl, lI_shr, nI_iI, lg_lt0, lg_gt0, lg_eq0, i_ne0', l_ne0', iI_lt, iI_le, iI_eq, lI_lt, lI_le, lI_eq, zb_0, zb_fit, zb_fit0, zb_fit1, i_one_zero, i_w_in, z_tb0, z_tb1, z_tb2, z_tb3, z_tb4, z_tb5, z_tb6, z_tb7, z_tb8, z_tbl, z_tu0, z_tu1, z_tu2, z_i_62, z_i_63, z_i_86, z_i_88, z_l_Y, z_ui_62, z_ui_63, z_ui_86, z_ui_88, z_ul_Y, z_sz_Y, z_sw_Y, iI_nat, z_ix_t, z_at, Int.add_zero, Int.sub_zero, Int.zero_add, Int.mul_zero, ne_eq, Bool.false_eq_true, Bool.true_eq_false, reduceCtorEq, eq_self, and_true, true_and, and_false, false_and, and_self, not_true_eq_false, not_false_eq_true, decide_true, decide_false, ↓reduceIte, Int.reduceEq, Int.reduceNe, Int.reduceLT, Int.reduceLE, Int.reduceAdd, Int.reduceSub, Int.reduceMul, Int.reduceNeg, Nat.reduceAdd, Nat.reduceEqDiff, Nat.reduceBEq, ↓z_x_eq, z_g_t, z_bI_s, z_bL_s, z_bR_s, z_bV_s, Int.cast_ofNat_Int, beq_self_eq_true, Bool.and_true, Bool.true_and, Bool.and_self, Bool.or_true, Bool.true_or, Bool.false_and, Bool.and_false, Bool.false_or, Bool.or_false, Bool.not_false, Bool.not_true, if_true, if_false, ite_true, ite_false, z_up_eq, z_up_app, z_ro_eq, p_isIn, d1, d2, zb_t, zb_f]
          exact ok_q
      · simp -implicitDefEqProofs (disch := first | assumption | omega | rfl | (simp only [z_up_eq, z_up_app, ↓reduceIte, Nat.reduceEqDiff]; omega)) only [z_lit0, z_lit1, z_lit2, z_litl, iI_add, iI_sub, iI_mul, iI_neg, iI_and, iI_or, iI_xor, iI_shl, iI_shr, iI_ushr, iI_div, iI_b, iI_c, iI_i2l, lI_l2i, lI_add, lI_sub, lI_mul, lI_neg, lI_div, lI_or, lI_and, lI_shl, lI_shr, nI_iI, lg_lt0, lg_gt0, lg_eq0, i_ne0', l_ne0', iI_lt, iI_le, iI_eq, lI_lt, lI_le, lI_eq, zb_0, zb_fit, zb_fit0, zb_fit1, i_one_zero, i_w_in, z_tb0, z_tb1, z_tb2, z_tb3, z_tb4, z_tb5, z_tb6, z_tb7, z_tb8, z_tbl, z_tu0, z_tu1, z_tu2, z_i_62, z_i_63, z_i_86, z_i_88, z_l_Y, z_ui_62, z_ui_63, z_ui_86, z_ui_88, z_ul_Y, z_sz_Y, z_sw_Y, iI_nat, z_ix_t, z_at, Int.add_zero, Int.sub_zero, Int.zero_add, Int.mul_zero, ne_eq, Bool.false_eq_true, Bool.true_eq_false, reduceCtorEq, eq_self, and_true, true_and, and_false, false_and, and_self, not_true_eq_false, not_false_eq_true, decide_true, decide_false, ↓reduceIte, Int.reduceEq, Int.reduceNe, Int.reduceLT, Int.reduceLE, Int.reduceAdd, Int.reduceSub, Int.reduceMul, Int.reduceNeg, Nat.reduceAdd, Nat.reduceEqDiff, Nat.reduceBEq, ↓z_x_eq, z_g_t, z_bI_s, z_bL_s, z_bR_s, z_bV_s, Int.cast_ofNat_Int, beq_self_eq_true, Bool.and_true, Bool.true_and, Bool.and_self, Bool.or_true, Bool.true_or, Bool.false_and, Bool.and_false, Bool.false_or, Bool.or_false, Bool.not_false, Bool.not_true, if_true, if_false, ite_true, ite_false, z_up_eq, z_up_app, z_ro_eq, p_isIn, d1, zb_f]
        exact ok_q
theorem d_person (d b_ : Nat) {T : ZT} {G : ZG} (hE : ∃ A, c_nw A G) {ch pu st : Int} (hb : i_in ch) (hl : i_in pu) (hs : i_in st) : z_dd False T G (fun σ => z_call (d + 2) 21 [vr 11, vi (iI ch), vi (iI pu), vi (iI st)] σ) (fun σ => z_call (b_ + 2) 24 [vr 80, vi (iI ch), vi (iI pu), vi (iI st)] σ) := by
  obtain ⟨A0, hC0⟩ := hE
  have q0 := (dw_h hC0).2.1
  have b0 := hC0.1.2.1
  by_cases c1 : (1 ≤ ch ∧ ch ≤ 9) ∧ (1 ≤ pu ∧ pu ≤ 9) ∧ (0 ≤ st ∧ st ≤ 17) ∧ G 11 3 < 10
  · obtain ⟨c1, c2, c5, c3⟩ := c1
    have c3' : (G 11 3 < 10) = True := eq_true c3
    refine ⟨iI (G 11 3), z_up (z_up (z_up (z_up G 11 (z_ro (G 11) 3 (G 11 3 + 1))) 14 (z_ro (G 14) (G 11 3) ch)) 15 (z_ro (G 15) (G 11 3) pu)) 16 (z_ro (G 16) (G 11 3) st), fun h => h.elim, fun s => ?_, fun r a => ?_, ?_⟩
    · dsimp only
      rw [e_H_addPerson]
      simp -implicitDefEqProofs (disch := first | assumption | omega | rfl | (simp only [z_up_eq, z_up_app, ↓reduceIte, Nat.reduceEqDiff]; omega)) only [z_lit0, z_lit1, z_lit2, z_litl, iI_add, iI_sub, iI_mul, iI_neg, iI_and, iI_or, iI_xor, iI_shl, iI_shr, iI_ushr, iI_div, iI_b, iI_c, iI_i2l, lI_l2i, lI_add, lI_sub, lI_mul, lI_neg, lI_div, lI_or, lI_and, lI_shl, lI_shr, nI_iI, lg_lt0, lg_gt0, lg_eq0, i_ne0', l_ne0', iI_lt, iI_le, iI_eq, lI_lt, lI_le, lI_eq, zb_0, zb_fit, zb_fit0, zb_fit1, i_one_zero, i_w_in, z_tb0, z_tb1, z_tb2, z_tb3, z_tb4, z_tb5, z_tb6, z_tb7, z_tb8, z_tbl, z_tu0, z_tu1, z_tu2, z_i_62, z_i_63, z_i_86, z_i_88, z_l_Y, z_ui_62, z_ui_63, z_ui_86, z_ui_88, z_ul_Y, z_sz_Y, z_sw_Y, iI_nat, z_ix_t, z_at, Int.add_zero, Int.sub_zero, Int.zero_add, Int.mul_zero, ne_eq, Bool.false_eq_true, Bool.true_eq_false, reduceCtorEq, eq_self, and_true, true_and, and_false, false_and, and_self, not_true_eq_false, not_false_eq_true, decide_true, decide_false, ↓reduceIte, Int.reduceEq, Int.reduceNe, Int.reduceLT, Int.reduceLE, Int.reduceAdd, Int.reduceSub, Int.reduceMul, Int.reduceNeg, Nat.reduceAdd, Nat.reduceEqDiff, Nat.reduceBEq, ↓z_x_eq, z_g_t, z_bI_s, z_bL_s, z_bR_s, z_bV_s, Int.cast_ofNat_Int, beq_self_eq_true, Bool.and_true, Bool.true_and, Bool.and_self, Bool.or_true, Bool.true_or, Bool.false_and, Bool.and_false, Bool.false_or, Bool.or_false, Bool.not_false, Bool.not_true, if_true, if_false, ite_true, ite_false, z_up_eq, z_up_app, z_ro_eq, p_within, c1, c2, c5, zb_t, c3', z_up_up, z_up_cm]
      exact ok_q' (by congr 2; omega) rfl
    · rw [z_up_ne _ _ (show r ≠ 16 by omega), z_up_ne _ _ (show r ≠ 15 by omega), z_up_ne _ _ (show r ≠ 14 by omega), z_up_ne _ _ (show r ≠ 11 by omega)]
    · intro A Gm s hC e hq e83
      obtain ⟨m0, m1, m2, m3, m4, m5, m6, m7, m8, m9, m10, m11, ms, mp, mn, mc, mb, me⟩ := hC.1
      have q := (dw_h hC).2.1
      rw [q] at c3 ⊢
      have c4 : (A 1 = 10) = False := eq_false (by omega)
      dsimp only
      rw [e_M_person]
      have r0 : z_ro (z_ro (z_ro (z_ro (z_ro (A) (32 + 5 * A 1) ch) (32 + 5 * A 1 + 1) pu) (32 + 5 * A 1 + 2) st) (32 + 5 * A 1 + 3) (-1)) (32 + 5 * A 1 + 4) 0 1 = A 1 := by rw [z_ro_ne _ _ (by omega), z_ro_ne _ _ (by omega), z_ro_ne _ _ (by omega), z_ro_ne _ _ (by omega), z_ro_ne _ _ (by omega)]
      simp -implicitDefEqProofs (disch := first | assumption | omega | rfl | (simp only [z_up_eq, z_up_app, ↓reduceIte, Nat.reduceEqDiff]; omega)) only [z_lit0, z_lit1, z_lit2, z_litl, iI_add, iI_sub, iI_mul, iI_neg, iI_and, iI_or, iI_xor, iI_shl, iI_shr, iI_ushr, iI_div, iI_b, iI_c, iI_i2l, lI_l2i, lI_add, lI_sub, lI_mul, lI_neg, lI_div, lI_or, lI_and, lI_shl, lI_shr, nI_iI, lg_lt0, lg_gt0, lg_eq0, i_ne0', l_ne0', iI_lt, iI_le, iI_eq, lI_lt, lI_le, lI_eq, zb_0, zb_fit, zb_fit0, zb_fit1, i_one_zero, i_w_in, z_tb0, z_tb1, z_tb2, z_tb3, z_tb4, z_tb5, z_tb6, z_tb7, z_tb8, z_tbl, z_tu0, z_tu1, z_tu2, z_i_62, z_i_63, z_i_86, z_i_88, z_l_Y, z_ui_62, z_ui_63, z_ui_86, z_ui_88, z_ul_Y, z_sz_Y, z_sw_Y, iI_nat, z_ix_t, z_at, Int.add_zero, Int.sub_zero, Int.zero_add, Int.mul_zero, ne_eq, Bool.false_eq_true, Bool.true_eq_false, reduceCtorEq, eq_self, and_true, true_and, and_false, false_and, and_self, not_true_eq_false, not_false_eq_true, decide_true, decide_false, ↓reduceIte, Int.reduceEq, Int.reduceNe, Int.reduceLT, Int.reduceLE, Int.reduceAdd, Int.reduceSub, Int.reduceMul, Int.reduceNeg, Nat.reduceAdd, Nat.reduceEqDiff, Nat.reduceBEq, ↓z_x_eq, z_g_t, z_bI_s, z_bL_s, z_bR_s, z_bV_s, Int.cast_ofNat_Int, beq_self_eq_true, Bool.and_true, Bool.true_and, Bool.and_self, Bool.or_true, Bool.true_or, Bool.false_and, Bool.and_false, Bool.false_or, Bool.or_false, Bool.not_false, Bool.not_true, if_true, if_false, ite_true, ite_false, z_up_eq, z_up_app, z_ro_eq, p_isIn, c1, c2, c5, zb_t, r0, c4, e, p_set, z_up_up]
      refine ok_ret ⟨by first | rfl | (congr 2; omega), _, s, rfl, ?_, ?_⟩
      · have hA : ∀ k, k ≠ 1 → (k < 32 + 5 * A 1 ∨ 32 + 5 * A 1 + 4 < k) → z_ro (z_ro (z_ro (z_ro (z_ro (z_ro A (32 + 5 * A 1) ch) (32 + 5 * A 1 + 1) pu) (32 + 5 * A 1 + 2) st) (32 + 5 * A 1 + 3) (-1)) (32 + 5 * A 1 + 4) 0) 1 (A 1 + 1) k = A k := fun k a e => by rw [z_ro_ne _ _ a, z_ro_ne _ _ (by omega), z_ro_ne _ _ (by omega), z_ro_ne _ _ (by omega), z_ro_ne _ _ (by omega), z_ro_ne _ _ (by omega)]
        have hA1 : z_ro (z_ro (z_ro (z_ro (z_ro (z_ro A (32 + 5 * A 1) ch) (32 + 5 * A 1 + 1) pu) (32 + 5 * A 1 + 2) st) (32 + 5 * A 1 + 3) (-1)) (32 + 5 * A 1 + 4) 0) 1 (A 1 + 1) 1 = A 1 + 1 := z_ro_eq _ _ _
        have b0 : z_ro (z_ro (z_ro (z_ro (z_ro (z_ro A (32 + 5 * A 1) ch) (32 + 5 * A 1 + 1) pu) (32 + 5 * A 1 + 2) st) (32 + 5 * A 1 + 3) (-1)) (32 + 5 * A 1 + 4) 0) 1 (A 1 + 1) (32 + 5 * A 1) = ch := by rw [z_ro_ne _ _ (by omega), z_ro_ne _ _ (by omega), z_ro_ne _ _ (by omega), z_ro_ne _ _ (by omega), z_ro_ne _ _ (by omega), z_ro_eq]
        have b1 : z_ro (z_ro (z_ro (z_ro (z_ro (z_ro A (32 + 5 * A 1) ch) (32 + 5 * A 1 + 1) pu) (32 + 5 * A 1 + 2) st) (32 + 5 * A 1 + 3) (-1)) (32 + 5 * A 1 + 4) 0) 1 (A 1 + 1) (32 + 5 * A 1 + 1) = pu := by rw [z_ro_ne _ _ (by omega), z_ro_ne _ _ (by omega), z_ro_ne _ _ (by omega), z_ro_ne _ _ (by omega), z_ro_eq]
        have b2 : z_ro (z_ro (z_ro (z_ro (z_ro (z_ro A (32 + 5 * A 1) ch) (32 + 5 * A 1 + 1) pu) (32 + 5 * A 1 + 2) st) (32 + 5 * A 1 + 3) (-1)) (32 + 5 * A 1 + 4) 0) 1 (A 1 + 1) (32 + 5 * A 1 + 2) = st := by rw [z_ro_ne _ _ (by omega), z_ro_ne _ _ (by omega), z_ro_ne _ _ (by omega), z_ro_eq]
        have b3 : z_ro (z_ro (z_ro (z_ro (z_ro (z_ro A (32 + 5 * A 1) ch) (32 + 5 * A 1 + 1) pu) (32 + 5 * A 1 + 2) st) (32 + 5 * A 1 + 3) (-1)) (32 + 5 * A 1 + 4) 0) 1 (A 1 + 1) (32 + 5 * A 1 + 3) = -1 := by rw [z_ro_ne _ _ (by omega), z_ro_ne _ _ (by omega), z_ro_eq]
        have b4 : z_ro (z_ro (z_ro (z_ro (z_ro (z_ro A (32 + 5 * A 1) ch) (32 + 5 * A 1 + 1) pu) (32 + 5 * A 1 + 2) st) (32 + 5 * A 1 + 3) (-1)) (32 + 5 * A 1 + 4) 0) 1 (A 1 + 1) (32 + 5 * A 1 + 4) = 0 := by rw [z_ro_ne _ _ (by omega), z_ro_eq]
        generalize z_ro (z_ro (z_ro (z_ro (z_ro (z_ro A (32 + 5 * A 1) ch) (32 + 5 * A 1 + 1) pu) (32 + 5 * A 1 + 2) st) (32 + 5 * A 1 + 3) (-1)) (32 + 5 * A 1 + 4) 0) 1 (A 1 + 1) = A' at *
        obtain ⟨hM, hI, ⟨h1, h2, h3, h4, h5, h6, h7, h8⟩, ⟨o1, o2, o3, o4⟩, ⟨t1, t2, t3, t4⟩, hS⟩ := hC
        have e : ∀ k, (k < 32 ∧ k ≠ 1) ∨ 82 ≤ k → A' k = A k := fun k a => hA k (by omega) (by omega)
        have ep : ∀ p w, 0 ≤ p → p < A 1 → 0 ≤ w → w ≤ 4 → A' (32 + 5 * p + w) = A (32 + 5 * p + w) := fun p w a b f g => hA _ (by omega) (by omega)
        have ep0 : ∀ p, 0 ≤ p → p < A 1 → A' (32 + 5 * p) = A (32 + 5 * p) := fun p a b => hA _ (by omega) (by omega)
        refine ⟨?_, ?_, ?_, ?_, ?_, ?_⟩
        · unfold m_ok
          rw [hA1, e 0 (by omega), e 2 (by omega), e 3 (by omega), e 4 (by omega), e 5 (by omega), e 6 (by omega), e 7 (by omega), e 8 (by omega), e 9 (by omega), e 10 (by omega), e 11 (by omega)]
          refine ⟨m0, by omega, m2, m3, m4, m5, m6, m7, m8, m9, m10, m11, fun k a f => ?_, fun p a f => ?_, fun k a f => ?_, fun k a f => ?_, fun k a f => ?_, fun k a f => ?_⟩
          · rw [e _ (by omega), e _ (by omega)]; exact ms k a f
          · by_cases g : p = A 1
            · rw [g, b0, b1, b2, b3, b4]; exact ⟨c1, c2, c5, by omega, by omega⟩
            · rw [ep0 p a (by omega), ep p 1 a (by omega) (by omega) (by omega), ep p 2 a (by omega) (by omega) (by omega), ep p 3 a (by omega) (by omega) (by omega), ep p 4 a (by omega) (by omega) (by omega)]; exact mp p a (by omega)
          · rw [e _ (by omega), e _ (by omega)]; exact mn k a f
          · rw [e _ (by omega), e _ (by omega)]; exact mc k a f
          · rw [e _ (by omega), e _ (by omega)]; exact mb k a f
          · rw [e _ (by omega), e _ (by omega), e _ (by omega)]; exact me k a f
        · intro p p' a b a' b' f
          rw [hA1] at b b'
          by_cases g : p = A 1
          · right; rw [g]; exact b3
          · by_cases g' : p' = A 1
            · right; rw [f, g']; exact b3
            · rw [ep p 3 a (by omega) (by omega) (by omega), ep p' 3 a' (by omega) (by omega) (by omega)] at f
              rw [ep p 3 a (by omega) (by omega) (by omega)]
              exact hI p p' a (by omega) a' (by omega) f
        · unfold c_hs
          dsimp only
          simp only [Nat.reduceAdd, z_up_app, Nat.reduceEqDiff, ↓reduceIte]
          rw [hA1, e 0 (by omega), e 2 (by omega), e 5 (by omega), e 6 (by omega)]
          refine ⟨by rw [z_ro_ne _ _ (by omega)]; exact h1, z_ro_eq _ _ _, by rw [z_ro_ne _ _ (by omega)]; exact h3, by rw [z_ro_ne _ _ (by omega)]; exact h4, by rw [z_ro_ne _ _ (by omega)]; exact h5, fun k a f => ?_, fun k a f => ?_, fun k a f => ?_⟩
          · rw [e _ (by omega), e _ (by omega)]; exact h6 k a f
          · by_cases g : k = A 1
            · rw [g, z_ro_eq, z_ro_eq, z_ro_eq, b0, b1, b2]; exact ⟨rfl, rfl, rfl⟩
            · rw [z_ro_ne _ _ g, z_ro_ne _ _ g, z_ro_ne _ _ g, ep0 k a (by omega), ep k 1 a (by omega) (by omega) (by omega), ep k 2 a (by omega) (by omega) (by omega)]; exact h7 k a (by omega)
          · rw [e _ (by omega), e _ (by omega)]; exact h8 k a f
        · unfold c_mo
          dsimp only
          simp only [Nat.reduceAdd, z_up_app, Nat.reduceEqDiff, ↓reduceIte]
          rw [e 8 (by omega), e 3 (by omega), e 4 (by omega), e 11 (by omega), hA1]
          refine ⟨o1, fun k a f => ?_, fun k a f => o3 k (by omega) f, fun k a f => ?_⟩
          · by_cases g : k = A 1
            · rw [g, b3, b4]; exact o3 (A 1) (Int.le_refl _) c3
            · rw [ep k 3 a (by omega) (by omega) (by omega), ep k 4 a (by omega) (by omega) (by omega)]; exact o2 k a (by omega)
          · rw [e _ (by omega), e _ (by omega)]; exact o4 k a f
        · unfold c_to
          dsimp only
          simp only [Nat.reduceAdd, z_up_app, Nat.reduceEqDiff, ↓reduceIte]
          rw [e 9 (by omega), e 10 (by omega)]
          refine ⟨t1, fun k a f => ?_, t3, fun k a f => ?_⟩
          · rw [e _ (by omega), e _ (by omega)]; exact t2 k a f
          · rw [e _ (by omega), e _ (by omega), e _ (by omega)]; exact t4 k a f
        · exact sp_mono hS rfl rfl (e 7 (by omega)) (fun k a => e k (by omega)) (e 11 (by omega)) (by rw [e 0 (by omega)]; omega) (by omega)
      · exact z_ro_ne _ _ (by omega) |>.trans (by rw [z_ro_ne _ _ (by omega), z_ro_ne _ _ (by omega), z_ro_ne _ _ (by omega), z_ro_ne _ _ (by omega), z_ro_ne _ _ (by omega)])
  · skip
    refine dd_same (iI (-1)) (fun h => h.elim) (fun s => ?_) ?_
    · rw [e_H_addPerson]
      by_cases d1 : 1 ≤ ch ∧ ch ≤ 9
      · by_cases d2 : 1 ≤ pu ∧ pu ≤ 9
        · by_cases d4 : 0 ≤ st ∧ st ≤ 17
          · have d3 : (G 11 3 < 10) = False := eq_false (by omega)
            simp -implicitDefEqProofs (disch := first | assumption | omega | rfl | (simp only [z_up_eq, z_up_app, ↓reduceIte, Nat.reduceEqDiff]; omega)) only [z_lit0, z_lit1, z_lit2, z_litl, iI_add, iI_sub, iI_mul, iI_neg, iI_and, iI_or, iI_xor, iI_shl, iI_shr, iI_ushr, iI_div, iI_b, iI_c, iI_i2l, lI_l2i, lI_add, lI_sub, lI_mul, lI_neg, lI_div, lI_or, lI_and, lI_shl, lI_shr, nI_iI, lg_lt0, lg_gt0, lg_eq0, i_ne0', l_ne0', iI_lt, iI_le, iI_eq, lI_lt, lI_le, lI_eq, zb_0, zb_fit, zb_fit0, zb_fit1, i_one_zero, i_w_in, z_tb0, z_tb1, z_tb2, z_tb3, z_tb4, z_tb5, z_tb6, z_tb7, z_tb8, z_tbl, z_tu0, z_tu1, z_tu2, z_i_62, z_i_63, z_i_86, z_i_88, z_l_Y, z_ui_62, z_ui_63, z_ui_86, z_ui_88, z_ul_Y, z_sz_Y, z_sw_Y, iI_nat, z_ix_t, z_at, Int.add_zero, Int.sub_zero, Int.zero_add, Int.mul_zero, ne_eq, Bool.false_eq_true, Bool.true_eq_false, reduceCtorEq, eq_self, and_true, true_and, and_false, false_and, and_self, not_true_eq_false, not_false_eq_true, decide_true, decide_false, ↓reduceIte, Int.reduceEq, Int.reduceNe, Int.reduceLT, Int.reduceLE, Int.reduceAdd, Int.reduceSub, Int.reduceMul, Int.reduceNeg, Nat.reduceAdd, Nat.reduceEqDiff, Nat.reduceBEq, ↓z_x_eq, z_g_t, z_bI_s, z_bL_s, z_bR_s, z_bV_s, Int.cast_ofNat_Int, beq_self_eq_true, Bool.and_true, Bool.true_and, Bool.and_self, Bool.or_true, Bool.true_or, Bool.false_and, Bool.and_false, Bool.false_or, Bool.or_false, Bool.not_false, Bool.not_true, if_true, if_false, ite_true, ite_false, z_up_eq, z_up_app, z_ro_eq, p_within, d1, d2, d4, zb_t, d3]
            exact ok_q
          · simp -implicitDefEqProofs (disch := first | assumption | omega | rfl | (simp only [z_up_eq, z_up_app, ↓reduceIte, Nat.reduceEqDiff]; omega)) only [z_lit0, z_lit1, z_lit2, z_litl, iI_add, iI_sub, iI_mul, iI_neg, iI_and, iI_or, iI_xor, iI_shl, iI_shr, iI_ushr, iI_div, iI_b, iI_c, iI_i2l, lI_l2i, lI_add, lI_sub, lI_mul, lI_neg, lI_div, lI_or, lI_and, lI_shl, lI_shr, nI_iI, lg_lt0, lg_gt0, lg_eq0, i_ne0', l_ne0', iI_lt, iI_le, iI_eq, lI_lt, lI_le, lI_eq, zb_0, zb_fit, zb_fit0, zb_fit1, i_one_zero, i_w_in, z_tb0, z_tb1, z_tb2, z_tb3, z_tb4, z_tb5, z_tb6, z_tb7, z_tb8, z_tbl, z_tu0, z_tu1, z_tu2, z_i_62, z_i_63, z_i_86, z_i_88, z_l_Y, z_ui_62, z_ui_63, z_ui_86, z_ui_88, z_ul_Y, z_sz_Y, z_sw_Y, iI_nat, z_ix_t, z_at, Int.add_zero, Int.sub_zero, Int.zero_add, Int.mul_zero, ne_eq, Bool.false_eq_true, Bool.true_eq_false, reduceCtorEq, eq_self, and_true, true_and, and_false, false_and, and_self, not_true_eq_false, not_false_eq_true, decide_true, decide_false, ↓reduceIte, Int.reduceEq, Int.reduceNe, Int.reduceLT, Int.reduceLE, Int.reduceAdd, Int.reduceSub, Int.reduceMul, Int.reduceNeg, Nat.reduceAdd, Nat.reduceEqDiff, Nat.reduceBEq, ↓z_x_eq, z_g_t, z_bI_s, z_bL_s, z_bR_s, z_bV_s, Int.cast_ofNat_Int, beq_self_eq_true, Bool.and_true, Bool.true_and, Bool.and_self, Bool.or_true, Bool.true_or, Bool.false_and, Bool.and_false, Bool.false_or, Bool.or_false, Bool.not_false, Bool.not_true, if_true, if_false, ite_true, ite_false, z_up_eq, z_up_app, z_ro_eq, p_within, d1, d2, d4, zb_t, zb_f]
            exact ok_q
        · simp -implicitDefEqProofs (disch := first | assumption | omega | rfl | (simp only [z_up_eq, z_up_app, ↓reduceIte, Nat.reduceEqDiff]; omega)) only [z_lit0, z_lit1, z_lit2, z_litl, iI_add, iI_sub, iI_mul, iI_neg, iI_and, iI_or, iI_xor, iI_shl, iI_shr, iI_ushr, iI_div, iI_b, iI_c, iI_i2l, lI_l2i, lI_add, lI_sub, lI_mul, lI_neg, lI_div, lI_or, lI_and, lI_shl, lI_shr, nI_iI, lg_lt0, lg_gt0, lg_eq0, i_ne0', l_ne0', iI_lt, iI_le, iI_eq, lI_lt, lI_le, lI_eq, zb_0, zb_fit, zb_fit0, zb_fit1, i_one_zero, i_w_in, z_tb0, z_tb1, z_tb2, z_tb3, z_tb4, z_tb5, z_tb6, z_tb7, z_tb8, z_tbl, z_tu0, z_tu1, z_tu2, z_i_62, z_i_63, z_i_86, z_i_88, z_l_Y, z_ui_62, z_ui_63, z_ui_86, z_ui_88, z_ul_Y, z_sz_Y, z_sw_Y, iI_nat, z_ix_t, z_at, Int.add_zero, Int.sub_zero, Int.zero_add, Int.mul_zero, ne_eq, Bool.false_eq_true, Bool.true_eq_false, reduceCtorEq, eq_self, and_true, true_and, and_false, false_and, and_self, not_true_eq_false, not_false_eq_true, decide_true, decide_false, ↓reduceIte, Int.reduceEq, Int.reduceNe, Int.reduceLT, Int.reduceLE, Int.reduceAdd, Int.reduceSub, Int.reduceMul, Int.reduceNeg, Nat.reduceAdd, Nat.reduceEqDiff, Nat.reduceBEq, ↓z_x_eq, z_g_t, z_bI_s, z_bL_s, z_bR_s, z_bV_s, Int.cast_ofNat_Int, beq_self_eq_true, Bool.and_true, Bool.true_and, Bool.and_self, Bool.or_true, Bool.true_or, Bool.false_and, Bool.and_false, Bool.false_or, Bool.or_false, Bool.not_false, Bool.not_true, if_true, if_false, ite_true, ite_false, z_up_eq, z_up_app, z_ro_eq, p_within, d1, d2, zb_t, zb_f]
          exact ok_q
      · simp -implicitDefEqProofs (disch := first | assumption | omega | rfl | (simp only [z_up_eq, z_up_app, ↓reduceIte, Nat.reduceEqDiff]; omega)) only [z_lit0, z_lit1, z_lit2, z_litl, iI_add, iI_sub, iI_mul, iI_neg, iI_and, iI_or, iI_xor, iI_shl, iI_shr, iI_ushr, iI_div, iI_b, iI_c, iI_i2l, lI_l2i, lI_add, lI_sub, lI_mul, lI_neg, lI_div, lI_or, lI_and, lI_shl, lI_shr, nI_iI, lg_lt0, lg_gt0, lg_eq0, i_ne0', l_ne0', iI_lt, iI_le, iI_eq, lI_lt, lI_le, lI_eq, zb_0, zb_fit, zb_fit0, zb_fit1, i_one_zero, i_w_in, z_tb0, z_tb1, z_tb2, z_tb3, z_tb4, z_tb5, z_tb6, z_tb7, z_tb8, z_tbl, z_tu0, z_tu1, z_tu2, z_i_62, z_i_63, z_i_86, z_i_88, z_l_Y, z_ui_62, z_ui_63, z_ui_86, z_ui_88, z_ul_Y, z_sz_Y, z_sw_Y, iI_nat, z_ix_t, z_at, Int.add_zero, Int.sub_zero, Int.zero_add, Int.mul_zero, ne_eq, Bool.false_eq_true, Bool.true_eq_false, reduceCtorEq, eq_self, and_true, true_and, and_false, false_and, and_self, not_true_eq_false, not_false_eq_true, decide_true, decide_false, ↓reduceIte, Int.reduceEq, Int.reduceNe, Int.reduceLT, Int.reduceLE, Int.reduceAdd, Int.reduceSub, Int.reduceMul, Int.reduceNeg, Nat.reduceAdd, Nat.reduceEqDiff, Nat.reduceBEq, ↓z_x_eq, z_g_t, z_bI_s, z_bL_s, z_bR_s, z_bV_s, Int.cast_ofNat_Int, beq_self_eq_true, Bool.and_true, Bool.true_and, Bool.and_self, Bool.or_true, Bool.true_or, Bool.false_and, Bool.and_false, Bool.false_or, Bool.or_false, Bool.not_false, Bool.not_true, if_true, if_false, ite_true, ite_false, z_up_eq, z_up_app, z_ro_eq, p_within, d1, zb_f]
        exact ok_q
    · intro A Gm s hC e hq e83
      have q := (dw_h hC).2.1
      have b1 := hC.1.2.1
      rw [q] at c1
      rw [e_M_person]
      by_cases d1 : 1 ≤ ch ∧ ch ≤ 9
      · by_cases d2 : 1 ≤ pu ∧ pu ≤ 9
        · by_cases d4 : 0 ≤ st ∧ st ≤ 17
          · have d3 : (A 1 = 10) = True := eq_true (by omega)
            simp -implicitDefEqProofs (disch := first | assumption | omega | rfl | (simp only [z_up_eq, z_up_app, ↓reduceIte, Nat.reduceEqDiff]; omega)) only [z_lit0, z_lit1, z_lit2, z_litl, iI_add, iI_sub, iI_mul, iI_neg, iI_and, iI_or, iI_xor, iI_shl, iI_shr, iI_ushr, iI_div, iI_b, iI_c, iI_i2l, lI_l2i, lI_add, lI_sub, lI_mul, lI_neg, lI_div, lI_or, lI_and, lI_shl, lI_shr, nI_iI, lg_lt0, lg_gt0, lg_eq0, i_ne0', l_ne0', iI_lt, iI_le, iI_eq, lI_lt, lI_le, lI_eq, zb_0, zb_fit, zb_fit0, zb_fit1, i_one_zero, i_w_in, z_tb0, z_tb1, z_tb2, z_tb3, z_tb4, z_tb5, z_tb6, z_tb7, z_tb8, z_tbl, z_tu0, z_tu1, z_tu2, z_i_62, z_i_63, z_i_86, z_i_88, z_l_Y, z_ui_62, z_ui_63, z_ui_86, z_ui_88, z_ul_Y, z_sz_Y, z_sw_Y, iI_nat, z_ix_t, z_at, Int.add_zero, Int.sub_zero, Int.zero_add, Int.mul_zero, ne_eq, Bool.false_eq_true, Bool.true_eq_false, reduceCtorEq, eq_self, and_true, true_and, and_false, false_and, and_self, not_true_eq_false, not_false_eq_true, decide_true, decide_false, ↓reduceIte, Int.reduceEq, Int.reduceNe, Int.reduceLT, Int.reduceLE, Int.reduceAdd, Int.reduceSub, Int.reduceMul, Int.reduceNeg, Nat.reduceAdd, Nat.reduceEqDiff, Nat.reduceBEq, ↓z_x_eq, z_g_t, z_bI_s, z_bL_s, z_bR_s, z_bV_s, Int.cast_ofNat_Int, beq_self_eq_true, Bool.and_true, Bool.true_and, Bool.and_self, Bool.or_true, Bool.true_or, Bool.false_and, Bool.and_false, Bool.false_or, Bool.or_false, Bool.not_false, Bool.not_true, if_true, if_false, ite_true, ite_false, z_up_eq, z_up_app, z_ro_eq, p_isIn, d1, d2, d4, zb_t, d3, e]
            exact ok_q
          · simp -implicitDefEqProofs (disch := first | assumption | omega | rfl | (simp only [z_up_eq, z_up_app, ↓reduceIte, Nat.reduceEqDiff]; omega)) only [z_lit0, z_lit1, z_lit2, z_litl, iI_add, iI_sub, iI_mul, iI_neg, iI_and, iI_or, iI_xor, iI_shl, iI_shr, iI_ushr, iI_div, iI_b, iI_c, iI_i2l, lI_l2i, lI_add, lI_sub, lI_mul, lI_neg, lI_div, lI_or, lI_and, lI_shl, lI_shr, nI_iI, lg_lt0, lg_gt0, lg_eq0, i_ne0', l_ne0', iI_lt, iI_le, iI_eq, lI_lt, lI_le, lI_eq, zb_0, zb_fit, zb_fit0, zb_fit1, i_one_zero, i_w_in, z_tb0, z_tb1, z_tb2, z_tb3, z_tb4, z_tb5, z_tb6, z_tb7, z_tb8, z_tbl, z_tu0, z_tu1, z_tu2, z_i_62, z_i_63, z_i_86, z_i_88, z_l_Y, z_ui_62, z_ui_63, z_ui_86, z_ui_88, z_ul_Y, z_sz_Y, z_sw_Y, iI_nat, z_ix_t, z_at, Int.add_zero, Int.sub_zero, Int.zero_add, Int.mul_zero, ne_eq, Bool.false_eq_true, Bool.true_eq_false, reduceCtorEq, eq_self, and_true, true_and, and_false, false_and, and_self, not_true_eq_false, not_false_eq_true, decide_true, decide_false, ↓reduceIte, Int.reduceEq, Int.reduceNe, Int.reduceLT, Int.reduceLE, Int.reduceAdd, Int.reduceSub, Int.reduceMul, Int.reduceNeg, Nat.reduceAdd, Nat.reduceEqDiff, Nat.reduceBEq, ↓z_x_eq, z_g_t, z_bI_s, z_bL_s, z_bR_s, z_bV_s, Int.cast_ofNat_Int, beq_self_eq_true, Bool.and_true, Bool.true_and, Bool.and_self, Bool.or_true, Bool.true_or, Bool.false_and, Bool.and_false, Bool.false_or, Bool.or_false, Bool.not_false, Bool.not_true, if_true, if_false, ite_true, ite_false, z_up_eq, z_up_app, z_ro_eq, p_isIn, d1, d2, d4, zb_t, zb_f]
            exact ok_q
        · simp -implicitDefEqProofs (disch := first | assumption | omega | rfl | (simp only [z_up_eq, z_up_app, ↓reduceIte, Nat.reduceEqDiff]; omega)) only [z_lit0, z_lit1, z_lit2, z_litl, iI_add, iI_sub, iI_mul, iI_neg, iI_and, iI_or, iI_xor, iI_shl, iI_shr, iI_ushr, iI_div, iI_b, iI_c, iI_i2l, lI_l2i, lI_add, lI_sub, lI_mul, lI_neg, lI_div, lI_or, lI_and, lI_shl, lI_shr, nI_iI, lg_lt0, lg_gt0, lg_eq0, i_ne0', l_ne0', iI_lt, iI_le, iI_eq, lI_lt, lI_le, lI_eq, zb_0, zb_fit, zb_fit0, zb_fit1, i_one_zero, i_w_in, z_tb0, z_tb1, z_tb2, z_tb3, z_tb4, z_tb5, z_tb6, z_tb7, z_tb8, z_tbl, z_tu0, z_tu1, z_tu2, z_i_62, z_i_63, z_i_86, z_i_88, z_l_Y, z_ui_62, z_ui_63, z_ui_86, z_ui_88, z_ul_Y, z_sz_Y, z_sw_Y, iI_nat, z_ix_t, z_at, Int.add_zero, Int.sub_zero, Int.zero_add, Int.mul_zero, ne_eq, Bool.false_eq_true, Bool.true_eq_false, reduceCtorEq, eq_self, and_true, true_and, and_false, false_and, and_self, not_true_eq_false, not_false_eq_true, decide_true, decide_false, ↓reduceIte, Int.reduceEq, Int.reduceNe, Int.reduceLT, Int.reduceLE, Int.reduceAdd, Int.reduceSub, Int.reduceMul, Int.reduceNeg, Nat.reduceAdd, Nat.reduceEqDiff, Nat.reduceBEq, ↓z_x_eq, z_g_t, z_bI_s, z_bL_s, z_bR_s, z_bV_s, Int.cast_ofNat_Int, beq_self_eq_true, Bool.and_true, Bool.true_and, Bool.and_self, Bool.or_true, Bool.true_or, Bool.false_and, Bool.and_false, Bool.false_or, Bool.or_false, Bool.not_false, Bool.not_true, if_true, if_false, ite_true, ite_false, z_up_eq, z_up_app, z_ro_eq, p_isIn, d1, d2, zb_t, zb_f]
          exact ok_q
      · simp -implicitDefEqProofs (disch := first | assumption | omega | rfl | (simp only [z_up_eq, z_up_app, ↓reduceIte, Nat.reduceEqDiff]; omega)) only [z_lit0, z_lit1, z_lit2, z_litl, iI_add, iI_sub, iI_mul, iI_neg, iI_and, iI_or, iI_xor, iI_shl, iI_shr, iI_ushr, iI_div, iI_b, iI_c, iI_i2l, lI_l2i, lI_add, lI_sub, lI_mul, lI_neg, lI_div, lI_or, lI_and, lI_shl, lI_shr, nI_iI, lg_lt0, lg_gt0, lg_eq0, i_ne0', l_ne0', iI_lt, iI_le, iI_eq, lI_lt, lI_le, lI_eq, zb_0, zb_fit, zb_fit0, zb_fit1, i_one_zero, i_w_in, z_tb0, z_tb1, z_tb2, z_tb3, z_tb4, z_tb5, z_tb6, z_tb7, z_tb8, z_tbl, z_tu0, z_tu1, z_tu2, z_i_62, z_i_63, z_i_86, z_i_88, z_l_Y, z_ui_62, z_ui_63, z_ui_86, z_ui_88, z_ul_Y, z_sz_Y, z_sw_Y, iI_nat, z_ix_t, z_at, Int.add_zero, Int.sub_zero, Int.zero_add, Int.mul_zero, ne_eq, Bool.false_eq_true, Bool.true_eq_false, reduceCtorEq, eq_self, and_true, true_and, and_false, false_and, and_self, not_true_eq_false, not_false_eq_true, decide_true, decide_false, ↓reduceIte, Int.reduceEq, Int.reduceNe, Int.reduceLT, Int.reduceLE, Int.reduceAdd, Int.reduceSub, Int.reduceMul, Int.reduceNeg, Nat.reduceAdd, Nat.reduceEqDiff, Nat.reduceBEq, ↓z_x_eq, z_g_t, z_bI_s, z_bL_s, z_bR_s, z_bV_s, Int.cast_ofNat_Int, beq_self_eq_true, Bool.and_true, Bool.true_and, Bool.and_self, Bool.or_true, Bool.true_or, Bool.false_and, Bool.and_false, Bool.false_or, Bool.or_false, Bool.not_false, Bool.not_true, if_true, if_false, ite_true, ite_false, z_up_eq, z_up_app, z_ro_eq, p_isIn, d1, zb_f]
        exact ok_q

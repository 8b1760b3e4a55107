/-! THE PURE PART, 34: usher, beat -/
theorem i_xor_u {a b : Int} (ha : 0 ≤ a ∧ a ≤ 15) (hb : 0 ≤ b ∧ b ≤ 3) : 0 ≤ i_xor a (i_shl 1 b) ∧ i_xor a (i_shl 1 b) ≤ 15 := by
  have h : ∀ a : Nat, a < 16 → ∀ b : Nat, b < 4 → 0 ≤ i_xor a (i_shl 1 b) ∧ i_xor a (i_shl 1 b) ≤ 15 := by decide +kernel
  have := h a.toNat (by omega) b.toNat (by omega)
  rw [show ((a.toNat : Nat) : Int) = a by omega, show ((b.toNat : Nat) : Int) = b by omega] at this
  exact this
theorem d_usher (d b_ : Nat) {T : ZT} {G : ZG} (hE : ∃ A, c_nw A G) {b : Int} (hb : i_in b) (y : Bool) : z_dd True T G (fun σ => z_call (d + 4) 138 [vr 65, vi (iI b), vi (iI (zb y))] σ) (fun σ => z_call (b_ + 3) 140 [vr 80, vi (iI b), vi (iI (zb y))] σ) := by
  obtain ⟨A0, hC0⟩ := hE
  have u0 := (dw_m hC0).1
  have m80 := hC0.1.2.2.2.2.2.2.2.2.1
  by_cases c1 : (0 ≤ b ∧ b ≤ 3) ∧ i_has (G 20 2) b ≠ y
  · obtain ⟨c1, c3⟩ := c1
    obtain ⟨W, ek, hW⟩ := p_ckeepA d T G (dw_b7 hC0).1 (dw_b7 hC0).2
    refine ⟨iI 1, z_up (z_up (z_up G 20 (z_ro (G 20) 2 (i_xor (G 20 2) (i_shl 1 b)))) 25 (z_ro (z_ro (G 25) 1 ((G 25 1 + 1) % 30)) 2 (if G 25 2 < 30 then G 25 2 + 1 else G 25 2))) 26 W, fun _ => zb_fit1, fun s => ?_, fun r a => ?_, ?_⟩
    · dsimp only
      rw [e_De_posts]
      simp -implicitDefEqProofs (disch := first | assumption | omega | rfl | (simp only [z_up_eq, z_up_app, ↓reduceIte, Nat.reduceEqDiff]; omega)) only [z_lit0, z_lit1, z_lit2, z_litl, iI_add, iI_sub, iI_mul, iI_neg, iI_and, iI_or, iI_xor, iI_shl, iI_shr, iI_ushr, iI_div, iI_b, iI_c, iI_i2l, lI_l2i, lI_add, lI_sub, lI_mul, lI_neg, lI_div, lI_or, lI_and, lI_shl, lI_shr, nI_iI, lg_lt0, lg_gt0, lg_eq0, i_ne0', l_ne0', iI_lt, iI_le, iI_eq, lI_lt, lI_le, lI_eq, zb_0, zb_fit, zb_fit0, zb_fit1, i_one_zero, i_w_in, z_tb0, z_tb1, z_tb2, z_tb3, z_tb4, z_tb5, z_tb6, z_tb7, z_tb8, z_tbl, z_tu0, z_tu1, z_tu2, z_i_62, z_i_63, z_i_86, z_i_88, z_l_Y, z_ui_62, z_ui_63, z_ui_86, z_ui_88, z_ul_Y, z_sz_Y, z_sw_Y, iI_nat, z_ix_t, z_at, Int.add_zero, Int.sub_zero, Int.zero_add, Int.mul_zero, ne_eq, Bool.false_eq_true, Bool.true_eq_false, reduceCtorEq, eq_self, and_true, true_and, and_false, false_and, and_self, not_true_eq_false, not_false_eq_true, decide_true, decide_false, ↓reduceIte, Int.reduceEq, Int.reduceNe, Int.reduceLT, Int.reduceLE, Int.reduceAdd, Int.reduceSub, Int.reduceMul, Int.reduceNeg, Nat.reduceAdd, Nat.reduceEqDiff, Nat.reduceBEq, ↓z_x_eq, z_g_t, z_bI_s, z_bL_s, z_bR_s, z_bV_s, Int.cast_ofNat_Int, beq_self_eq_true, Bool.and_true, Bool.true_and, Bool.and_self, Bool.or_true, Bool.true_or, Bool.false_and, Bool.and_false, Bool.false_or, Bool.or_false, Bool.not_false, Bool.not_true, if_true, if_false, ite_true, ite_false, z_up_eq, z_up_app, z_ro_eq, p_within, c1, zb_t, p_has, zb_zb, c3, ek, z_up_cm]
      exact ok_q
    · rw [z_up_ne _ _ (show r ≠ 26 by omega), z_up_ne _ _ (show r ≠ 25 by omega), z_up_ne _ _ (show r ≠ 20 by omega)]
    · intro A Gm s hC e hq e83
      have q := (dw_m hC).1
      have m1 := hC.1.2.1
      have m7 := hC.1.2.2.2.2.2.2.2.1
      have m8 := hC.1.2.2.2.2.2.2.2.2.1
      rw [q] at c3 ⊢
      have xu := i_xor_u m8 c1
      obtain ⟨B, R, em, k1, k2⟩ := p_mkeep b_ T Gm s (by rw [e]; exact m7)
      rw [e] at k2
      have hK := K_keep hC hW k1 k2
      have a8 : z_ro R 7 (B 7 + 1) 8 = A 8 := by
        have := (dw_m hK).1
        rw [z_up_ne _ _ (by omega), z_up_ne _ _ (by omega)] at this
        rw [← this]; exact q
      dsimp only
      rw [e_M_usher]
      simp -implicitDefEqProofs (disch := first | assumption | omega | rfl | (simp only [z_up_eq, z_up_app, ↓reduceIte, Nat.reduceEqDiff]; omega)) only [z_lit0, z_lit1, z_lit2, z_litl, iI_add, iI_sub, iI_mul, iI_neg, iI_and, iI_or, iI_xor, iI_shl, iI_shr, iI_ushr, iI_div, iI_b, iI_c, iI_i2l, lI_l2i, lI_add, lI_sub, lI_mul, lI_neg, lI_div, lI_or, lI_and, lI_shl, lI_shr, nI_iI, lg_lt0, lg_gt0, lg_eq0, i_ne0', l_ne0', iI_lt, iI_le, iI_eq, lI_lt, lI_le, lI_eq, zb_0, zb_fit, zb_fit0, zb_fit1, i_one_zero, i_w_in, z_tb0, z_tb1, z_tb2, z_tb3, z_tb4, z_tb5, z_tb6, z_tb7, z_tb8, z_tbl, z_tu0, z_tu1, z_tu2, z_i_62, z_i_63, z_i_86, z_i_88, z_l_Y, z_ui_62, z_ui_63, z_ui_86, z_ui_88, z_ul_Y, z_sz_Y, z_sw_Y, iI_nat, z_ix_t, z_at, Int.add_zero, Int.sub_zero, Int.zero_add, Int.mul_zero, ne_eq, Bool.false_eq_true, Bool.true_eq_false, reduceCtorEq, eq_self, and_true, true_and, and_false, false_and, and_self, not_true_eq_false, not_false_eq_true, decide_true, decide_false, ↓reduceIte, Int.reduceEq, Int.reduceNe, Int.reduceLT, Int.reduceLE, Int.reduceAdd, Int.reduceSub, Int.reduceMul, Int.reduceNeg, Nat.reduceAdd, Nat.reduceEqDiff, Nat.reduceBEq, ↓z_x_eq, z_g_t, z_bI_s, z_bL_s, z_bR_s, z_bV_s, Int.cast_ofNat_Int, beq_self_eq_true, Bool.and_true, Bool.true_and, Bool.and_self, Bool.or_true, Bool.true_or, Bool.false_and, Bool.and_false, Bool.false_or, Bool.or_false, Bool.not_false, Bool.not_true, if_true, if_false, ite_true, ite_false, z_up_eq, z_up_app, z_ro_eq, p_isIn, c1, zb_t, e, p_mhas, zb_zb, c3, em, z_up_up, a8]
      refine ok_ret ⟨rfl, _, s, rfl, ?_, ?_⟩
      · have a1 : z_ro R 7 (B 7 + 1) 1 = A 1 := by
          have := (dw_h hK).2.1
          rw [z_up_ne _ _ (by omega), z_up_ne _ _ (by omega)] at this
          rw [← this]; exact (dw_h hC).2.1
        have oo := dw_o hK
        have uu := dw_u hK
        have mm := dw_m hK
        rw [z_up_ne _ _ (show 21 ≠ 26 by omega), z_up_ne _ _ (show 21 ≠ 25 by omega), z_up_ne _ _ (show 22 ≠ 26 by omega), z_up_ne _ _ (show 22 ≠ 25 by omega)] at oo uu
        rw [z_up_ne _ _ (show 20 ≠ 26 by omega), z_up_ne _ _ (show 20 ≠ 25 by omega)] at mm
        generalize z_ro R 7 (B 7 + 1) = A1 at *
        have hag : m_ag A1 (z_ro A1 8 (i_xor (A 8) (i_shl 1 b))) := ag_u (ag_id A1)
        refine D_mo hK (fun r x1 x2 x3 => ?_) hag (fun k x1 x2 x3 => z_ro_ne _ _ (by omega)) (ag_ush hK.1 xu) ?_ (fun r x1 x2 => z_ro_ne _ _ (by omega)) ?_ (fun r x1 x2 => ?_) (fun r x1 x2 => ?_)
        · by_cases f : r = 26
          · rw [f, z_up_eq, z_up_eq]
          · rw [z_up_ne _ _ f, z_up_ne _ _ f]
            by_cases f2 : r = 25
            · rw [f2, z_up_eq, z_up_eq]
            · rw [z_up_ne _ _ f2, z_up_ne _ _ f2, z_up_ne _ _ x1]
        · intro x y x1 x2 x3 x4 x5
          rw [z_ro_ne _ _ (by omega)] at x2 x4
          rw [z_ro_ne _ _ (by omega), z_ro_ne _ _ (by omega)] at x5
          rw [z_ro_ne _ _ (by omega)]
          exact hK.2.1 x y x1 x2 x3 x4 x5
        · rw [z_up_ne _ _ (show 20 ≠ 26 by omega), z_up_ne _ _ (show 20 ≠ 25 by omega), z_up_eq]
          rw [z_ro_eq, z_ro_eq, z_ro_ne _ _ (show (3 : Int) ≠ 2 by omega), z_ro_ne _ _ (show (4 : Int) ≠ 2 by omega), z_ro_ne _ _ (show (5 : Int) ≠ 2 by omega), z_ro_ne _ _ (show (3 : Int) ≠ 8 by omega)]
          exact ⟨rfl, mm.2.1, mm.2.2.1, mm.2.2.2⟩
        · rw [z_up_ne _ _ (show 21 ≠ 26 by omega), z_up_ne _ _ (show 21 ≠ 25 by omega), z_up_ne _ _ (show 21 ≠ 20 by omega), z_up_ne _ _ (show 22 ≠ 26 by omega), z_up_ne _ _ (show 22 ≠ 25 by omega), z_up_ne _ _ (show 22 ≠ 20 by omega), z_ro_ne _ _ (by omega), z_ro_ne _ _ (by omega)]
          exact oo r x1 x2
        · rw [z_up_ne _ _ (show 21 ≠ 26 by omega), z_up_ne _ _ (show 21 ≠ 25 by omega), z_up_ne _ _ (show 21 ≠ 20 by omega), z_up_ne _ _ (show 22 ≠ 26 by omega), z_up_ne _ _ (show 22 ≠ 25 by omega), z_up_ne _ _ (show 22 ≠ 20 by omega)]
          exact uu r x1 x2
      · rw [z_ro_ne _ _ (by omega), z_ro_ne _ _ (by omega)]
        have := (dw_h hK).2.2.2.1
        rw [z_up_ne _ _ (by omega), z_up_ne _ _ (by omega), z_ro_ne _ _ (by omega)] at this
        rw [← this]; exact (dw_h hC).2.2.2.1
  · refine dd_same (iI 0) (fun _ => zb_fit0) (fun s => ?_) ?_
    · rw [e_De_posts]
      by_cases d1 : 0 ≤ b ∧ b ≤ 3
      · have d3 : (i_has (G 20 2) b = y) = True := eq_true (by
          by_cases f : i_has (G 20 2) b = y
          · exact f
          · exact absurd ⟨d1, f⟩ c1)
        simp -implicitDefEqProofs (disch := first | assumption | omega | rfl | (simp only [z_up_eq, z_up_app, ↓reduceIte, Nat.reduceEqDiff]; omega)) only [z_lit0, z_lit1, z_lit2, z_litl, iI_add, iI_sub, iI_mul, iI_neg, iI_and, iI_or, iI_xor, iI_shl, iI_shr, iI_ushr, iI_div, iI_b, iI_c, iI_i2l, lI_l2i, lI_add, lI_sub, lI_mul, lI_neg, lI_div, lI_or, lI_and, lI_shl, lI_shr, nI_iI, lg_lt0, lg_gt0, lg_eq0, i_ne0', l_ne0', iI_lt, iI_le, iI_eq, lI_lt, lI_le, lI_eq, zb_0, zb_fit, zb_fit0, zb_fit1, i_one_zero, i_w_in, z_tb0, z_tb1, z_tb2, z_tb3, z_tb4, z_tb5, z_tb6, z_tb7, z_tb8, z_tbl, z_tu0, z_tu1, z_tu2, z_i_62, z_i_63, z_i_86, z_i_88, z_l_Y, z_ui_62, z_ui_63, z_ui_86, z_ui_88, z_ul_Y, z_sz_Y, z_sw_Y, iI_nat, z_ix_t, z_at, Int.add_zero, Int.sub_zero, Int.zero_add, Int.mul_zero, ne_eq, Bool.false_eq_true, Bool.true_eq_false, reduceCtorEq, eq_self, and_true, true_and, and_false, false_and, and_self, not_true_eq_false, not_false_eq_true, decide_true, decide_false, ↓reduceIte, Int.reduceEq, Int.reduceNe, Int.reduceLT, Int.reduceLE, Int.reduceAdd, Int.reduceSub, Int.reduceMul, Int.reduceNeg, Nat.reduceAdd, Nat.reduceEqDiff, Nat.reduceBEq, ↓z_x_eq, z_g_t, z_bI_s, z_bL_s, z_bR_s, z_bV_s, Int.cast_ofNat_Int, beq_self_eq_true, Bool.and_true, Bool.true_and, Bool.and_self, Bool.or_true, Bool.true_or, Bool.false_and, Bool.and_false, Bool.false_or, Bool.or_false, Bool.not_false, Bool.not_true, if_true, if_false, ite_true, ite_false, z_up_eq, z_up_app, z_ro_eq, p_within, d1, zb_t, p_has, zb_zb, d3]
        exact ok_q
      · simp -implicitDefEqProofs (disch := first | assumption | omega | rfl | (simp only [z_up_eq, z_up_app, ↓reduceIte, Nat.reduceEqDiff]; omega)) only [z_lit0, z_lit1, z_lit2, z_litl, iI_add, iI_sub, iI_mul, iI_neg, iI_and, iI_or, iI_xor, iI_shl, iI_shr, iI_ushr, iI_div, iI_b, iI_c, iI_i2l, lI_l2i, lI_add, lI_sub, lI_mul, lI_neg, lI_div, lI_or, lI_and, lI_shl, lI_shr, nI_iI, lg_lt0, lg_gt0, lg_eq0, i_ne0', l_ne0', iI_lt, iI_le, iI_eq, lI_lt, lI_le, lI_eq, zb_0, zb_fit, zb_fit0, zb_fit1, i_one_zero, i_w_in, z_tb0, z_tb1, z_tb2, z_tb3, z_tb4, z_tb5, z_tb6, z_tb7, z_tb8, z_tbl, z_tu0, z_tu1, z_tu2, z_i_62, z_i_63, z_i_86, z_i_88, z_l_Y, z_ui_62, z_ui_63, z_ui_86, z_ui_88, z_ul_Y, z_sz_Y, z_sw_Y, iI_nat, z_ix_t, z_at, Int.add_zero, Int.sub_zero, Int.zero_add, Int.mul_zero, ne_eq, Bool.false_eq_true, Bool.true_eq_false, reduceCtorEq, eq_self, and_true, true_and, and_false, false_and, and_self, not_true_eq_false, not_false_eq_true, decide_true, decide_false, ↓reduceIte, Int.reduceEq, Int.reduceNe, Int.reduceLT, Int.reduceLE, Int.reduceAdd, Int.reduceSub, Int.reduceMul, Int.reduceNeg, Nat.reduceAdd, Nat.reduceEqDiff, Nat.reduceBEq, ↓z_x_eq, z_g_t, z_bI_s, z_bL_s, z_bR_s, z_bV_s, Int.cast_ofNat_Int, beq_self_eq_true, Bool.and_true, Bool.true_and, Bool.and_self, Bool.or_true, Bool.true_or, Bool.false_and, Bool.and_false, Bool.false_or, Bool.or_false, Bool.not_false, Bool.not_true, if_true, if_false, ite_true, ite_false, z_up_eq, z_up_app, z_ro_eq, p_within, d1, zb_f]
        exact ok_q
    · intro A Gm s hC e hq e83
      have q := (dw_m hC).1
      rw [q] at c1
      rw [e_M_usher]
      by_cases d1 : 0 ≤ b ∧ b ≤ 3
      · have d3 : (i_has (A 8) b = y) = True := eq_true (by
          by_cases f : i_has (A 8) b = y
          · exact f
          · exact absurd ⟨d1, f⟩ c1)
        simp -implicitDefEqProofs (disch := first | assumption | omega | rfl | (simp only [z_up_eq, z_up_app, ↓reduceIte, Nat.reduceEqDiff]; omega)) only [z_lit0, z_lit1, z_lit2, z_litl, iI_add, iI_sub, iI_mul, iI_neg, iI_and, iI_or, iI_xor, iI_shl, iI_shr, iI_ushr, iI_div, iI_b, iI_c, iI_i2l, lI_l2i, lI_add, lI_sub, lI_mul, lI_neg, lI_div, lI_or, lI_and, lI_shl, lI_shr, nI_iI, lg_lt0, lg_gt0, lg_eq0, i_ne0', l_ne0', iI_lt, iI_le, iI_eq, lI_lt, lI_le, lI_eq, zb_0, zb_fit, zb_fit0, zb_fit1, i_one_zero, i_w_in, z_tb0, z_tb1, z_tb2, z_tb3, z_tb4, z_tb5, z_tb6, z_tb7, z_tb8, z_tbl, z_tu0, z_tu1, z_tu2, z_i_62, z_i_63, z_i_86, z_i_88, z_l_Y, z_ui_62, z_ui_63, z_ui_86, z_ui_88, z_ul_Y, z_sz_Y, z_sw_Y, iI_nat, z_ix_t, z_at, Int.add_zero, Int.sub_zero, Int.zero_add, Int.mul_zero, ne_eq, Bool.false_eq_true, Bool.true_eq_false, reduceCtorEq, eq_self, and_true, true_and, and_false, false_and, and_self, not_true_eq_false, not_false_eq_true, decide_true, decide_false, ↓reduceIte, Int.reduceEq, Int.reduceNe, Int.reduceLT, Int.reduceLE, Int.reduceAdd, Int.reduceSub, Int.reduceMul, Int.reduceNeg, Nat.reduceAdd, Nat.reduceEqDiff, Nat.reduceBEq, ↓z_x_eq, z_g_t, z_bI_s, z_bL_s, z_bR_s, z_bV_s, Int.cast_ofNat_Int, beq_self_eq_true, Bool.and_true, Bool.true_and, Bool.and_self, Bool.or_true, Bool.true_or, Bool.false_and, Bool.and_false, Bool.false_or, Bool.or_false, Bool.not_false, Bool.not_true, if_true, if_false, ite_true, ite_false, z_up_eq, z_up_app, z_ro_eq, p_isIn, d1, zb_t, e, p_mhas, zb_zb, d3]
        exact ok_q
      · simp -implicitDefEqProofs (disch := first | assumption | omega | rfl | (simp only [z_up_eq, z_up_app, ↓reduceIte, Nat.reduceEqDiff]; omega)) only [z_lit0, z_lit1, z_lit2, z_litl, iI_add, iI_sub, iI_mul, iI_neg, iI_and, iI_or, iI_xor, iI_shl, iI_shr, iI_ushr, iI_div, iI_b, iI_c, iI_i2l, lI_l2i, lI_add, lI_sub, lI_mul, lI_neg, lI_div, lI_or, lI_and, lI_shl, lI_shr, nI_iI, lg_lt0, lg_gt0, lg_eq0, i_ne0', l_ne0', iI_lt, iI_le, iI_eq, lI_lt, lI_le, lI_eq, zb_0, zb_fit, zb_fit0, zb_fit1, i_one_zero, i_w_in, z_tb0, z_tb1, z_tb2, z_tb3, z_tb4, z_tb5, z_tb6, z_tb7, z_tb8, z_tbl, z_tu0, z_tu1, z_tu2, z_i_62, z_i_63, z_i_86, z_i_88, z_l_Y, z_ui_62, z_ui_63, z_ui_86, z_ui_88, z_ul_Y, z_sz_Y, z_sw_Y, iI_nat, z_ix_t, z_at, Int.add_zero, Int.sub_zero, Int.zero_add, Int.mul_zero, ne_eq, Bool.false_eq_true, Bool.true_eq_false, reduceCtorEq, eq_self, and_true, true_and, and_false, false_and, and_self, not_true_eq_false, not_false_eq_true, decide_true, decide_false, ↓reduceIte, Int.reduceEq, Int.reduceNe, Int.reduceLT, Int.reduceLE, Int.reduceAdd, Int.reduceSub, Int.reduceMul, Int.reduceNeg, Nat.reduceAdd, Nat.reduceEqDiff, Nat.reduceBEq, ↓z_x_eq, z_g_t, z_bI_s, z_bL_s, z_bR_s, z_bV_s, Int.cast_ofNat_Int, beq_self_eq_true, Bool.and_true, Bool.true_and, Bool.and_self, Bool.or_true, Bool.true_or, Bool.false_and, Bool.and_false, Bool.false_or, Bool.or_false, Bool.not_false, Bool.not_true, if_true, if_false, ite_true, ite_false, z_up_eq, z_up_app, z_ro_eq, p_isIn, d1, zb_f]
        exact ok_q
theorem ag_bt {A : Int → Int} {v : Int} (hM : m_ok A) (hv : 0 ≤ v ∧ v ≤ 9999) : m_ok (z_ro A 3 v) := by
  obtain ⟨m0, m1, m2, m3, m4, m5, m6, m7, m8, m9, m10, m11, ms, mp, mn, mc, mb, me⟩ := hM
  have e : ∀ k, k ≠ 3 → z_ro A 3 v k = A k := fun k a => z_ro_ne _ _ a
  unfold m_ok
  rw [e 0 (by omega), e 1 (by omega), e 2 (by omega), z_ro_eq, e 4 (by omega), e 5 (by omega), e 6 (by omega), e 7 (by omega), e 8 (by omega), e 9 (by omega), e 10 (by omega), e 11 (by omega)]
  refine ⟨m0, m1, m2, hv, m4, m5, m6, m7, m8, m9, m10, m11, fun k a f => ?_, fun p a f => ?_, fun k a f => ?_, fun k a f => ?_, fun k a f => ?_, fun k a f => ?_⟩
  · rw [e _ (by omega), e _ (by omega)]; exact ms k a f
  · rw [e _ (by omega), e _ (by omega), e _ (by omega), e _ (by omega), e _ (by omega)]; exact mp p a f
  · rw [e _ (by omega), e _ (by omega)]; exact mn k a f
  · rw [e _ (by omega), e _ (by omega)]; exact mc k a f
  · rw [e _ (by omega), e _ (by omega)]; exact mb k a f
  · rw [e _ (by omega), e _ (by omega), e _ (by omega)]; exact me k a f

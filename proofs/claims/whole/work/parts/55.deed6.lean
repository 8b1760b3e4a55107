/-! THE PURE PART, 35: beat -/
theorem D_mo2 {A A' : Int → Int} {G G' : ZG} (hC : c_nw A G) (hg : ∀ r, r ≠ 20 → r ≠ 21 → r ≠ 22 → G' r = G r) (hag : ∀ q, 0 ≤ q → q < 10 → A' (32 + 5 * q) = A (32 + 5 * q) ∧ A' (32 + 5 * q + 1) = A (32 + 5 * q + 1)) (h3 : ∀ k, k ≠ 3 → k ≠ 8 → (k < 32 ∨ 82 ≤ k) → A' k = A k) (hM : m_ok A') (hI : m_inj A') (hp2 : ∀ p, 0 ≤ p → p < A 1 → A' (32 + 5 * p + 2) = A (32 + 5 * p + 2)) (ho : G' 20 2 = A' 8 ∧ G' 20 3 = A' 3 ∧ G' 20 4 = A 4 ∧ G' 20 5 = A 11) (hq : ∀ p, 0 ≤ p → p < A 1 → G' 21 p = A' (32 + 5 * p + 3) ∧ G' 22 p = A' (32 + 5 * p + 4)) (hu : ∀ p, A 1 ≤ p → p < 10 → G' 21 p = -1 ∧ G' 22 p = 0) : c_nw A' G' := by
  obtain ⟨hM0, -, ⟨h1, h2, h3', h4, h5, h6, h7, h8⟩, ⟨o1, o2, o3, o4⟩, ⟨t1, t2, t3, t4⟩, hS⟩ := hC
  have m0 := hM0.1
  have m1 := hM0.2.1
  have m11 := hM0.2.2.2.2.2.2.2.2.2.2.2.1
  have m2 := hM0.2.2.1
  refine ⟨hM, hI, ?_, ?_, ?_, ?_⟩
  · unfold c_hs
    dsimp only
    rw [hg (11 + 0) (by omega) (by omega) (by omega), hg (11 + 1) (by omega) (by omega) (by omega), hg (11 + 2) (by omega) (by omega) (by omega), hg (11 + 3) (by omega) (by omega) (by omega), hg (11 + 4) (by omega) (by omega) (by omega), hg (11 + 5) (by omega) (by omega) (by omega), hg (11 + 6) (by omega) (by omega) (by omega), hg (11 + 7) (by omega) (by omega) (by omega)]
    rw [h3 0 (by omega) (by omega) (by omega), h3 1 (by omega) (by omega) (by omega), h3 2 (by omega) (by omega) (by omega), h3 5 (by omega) (by omega) (by omega), h3 6 (by omega) (by omega) (by omega)]
    refine ⟨h1, h2, h3', h4, h5, fun k a f => ?_, fun k a f => ?_, fun k a f => ?_⟩
    · rw [h3 _ (by omega) (by omega) (by omega), h3 _ (by omega) (by omega) (by omega)]; exact h6 k a f
    · rw [(hag k a (by omega)).1, (hag k a (by omega)).2, hp2 k a f]; exact h7 k a f
    · rw [h3 _ (by omega) (by omega) (by omega), h3 _ (by omega) (by omega) (by omega)]; exact h8 k a f
  · unfold c_mo
    dsimp only
    rw [hg (11 + 12) (by omega) (by omega) (by omega), hg (11 + 13) (by omega) (by omega) (by omega), h3 1 (by omega) (by omega) (by omega), h3 11 (by omega) (by omega) (by omega), h3 4 (by omega) (by omega) (by omega)]
    refine ⟨ho, hq, hu, fun k a f => ?_⟩
    rw [h3 _ (by omega) (by omega) (by omega), h3 _ (by omega) (by omega) (by omega)]; exact o4 k a f
  · unfold c_to
    dsimp only
    rw [hg (11 + 16) (by omega) (by omega) (by omega), hg (11 + 17) (by omega) (by omega) (by omega), hg (11 + 18) (by omega) (by omega) (by omega), hg (11 + 19) (by omega) (by omega) (by omega), hg (11 + 20) (by omega) (by omega) (by omega), hg (11 + 21) (by omega) (by omega) (by omega), h3 9 (by omega) (by omega) (by omega), h3 10 (by omega) (by omega) (by omega)]
    have m9 := hM0.2.2.2.2.2.2.2.2.2.1
    refine ⟨t1, fun k a f => ?_, t3, fun k a f => ?_⟩
    · rw [h3 _ (by omega) (by omega) (by omega), h3 _ (by omega) (by omega) (by omega)]; exact t2 k a f
    · rw [h3 _ (by omega) (by omega) (by omega), h3 _ (by omega) (by omega) (by omega), h3 _ (by omega) (by omega) (by omega)]; exact t4 k a f
  · exact sp_mono hS (hg (11 + 14) (by omega) (by omega) (by omega)) (hg (11 + 15) (by omega) (by omega) (by omega)) (h3 7 (by omega) (by omega) (by omega)) (fun k a => h3 k (by omega) (by omega) (by omega)) (h3 11 (by omega) (by omega) (by omega)) (by rw [h3 0 (by omega) (by omega) (by omega)]; omega) (by rw [h3 1 (by omega) (by omega) (by omega)]; omega)
theorem d_beat (d b_ : Nat) {T : ZT} {G : ZG} (hE : ∃ A, c_nw A G) {n : Int} (hn : i_in n) : z_dd False T G (fun σ => z_call (d + 4) 172 [vr 65, vi (iI n)] σ) (fun σ => z_call (b_ + 3) 174 [vr 80, vi (iI n)] σ) := by
  obtain ⟨A0, hC0⟩ := hE
  have u0 := (dw_m hC0).2.1
  have m30 := hC0.1.2.2.2.1
  by_cases c1 : (1 ≤ n ∧ n ≤ 999) ∧ G 20 3 + n ≤ 9999
  · obtain ⟨c1, c3⟩ := c1
    obtain ⟨W, ek, hW⟩ := p_ckeepA d T G (dw_b7 hC0).1 (dw_b7 hC0).2
    refine ⟨iI (G 20 3 + n), z_up (z_up (z_up G 20 (z_ro (G 20) 3 (G 20 3 + n))) 25 (z_ro (z_ro (G 25) 1 ((G 25 1 + 1) % 30)) 2 (if G 25 2 < 30 then G 25 2 + 1 else G 25 2))) 26 W, fun h => h.elim, fun s => ?_, fun r a => ?_, ?_⟩
    · dsimp only
      rw [e_De_passBeats]
      have c3' : (9999 < G 20 3 + n) = False := eq_false (by omega)
      simp -implicitDefEqProofs (disch := first | assumption | omega | rfl | (simp only [z_up_eq, z_up_app, ↓reduceIte, Nat.reduceEqDiff]; omega)) only [z_lit0, z_lit1, z_lit2, z_litl, iI_add, iI_sub, iI_mul, iI_neg, iI_and, iI_or, iI_xor, iI_shl, iI_shr, iI_ushr, iI_div, iI_b, iI_c, iI_i2l, lI_l2i, lI_add, lI_sub, lI_mul, lI_neg, lI_div, lI_or, lI_and, lI_shl, lI_shr, nI_iI, lg_lt0, lg_gt0, lg_eq0, i_ne0', l_ne0', iI_lt, iI_le, iI_eq, lI_lt, lI_le, lI_eq, zb_0, zb_fit, zb_fit0, zb_fit1, i_one_zero, i_w_in, z_tb0, z_tb1, z_tb2, z_tb3, z_tb4, z_tb5, z_tb6, z_tb7, z_tb8, z_tbl, z_tu0, z_tu1, z_tu2, z_i_62, z_i_63, z_i_86, z_i_88, z_l_Y, z_ui_62, z_ui_63, z_ui_86, z_ui_88, z_ul_Y, z_sz_Y, z_sw_Y, iI_nat, z_ix_t, z_at, Int.add_zero, Int.sub_zero, Int.zero_add, Int.mul_zero, ne_eq, Bool.false_eq_true, Bool.true_eq_false, reduceCtorEq, eq_self, and_true, true_and, and_false, false_and, and_self, not_true_eq_false, not_false_eq_true, decide_true, decide_false, ↓reduceIte, Int.reduceEq, Int.reduceNe, Int.reduceLT, Int.reduceLE, Int.reduceAdd, Int.reduceSub, Int.reduceMul, Int.reduceNeg, Nat.reduceAdd, Nat.reduceEqDiff, Nat.reduceBEq, ↓z_x_eq, z_g_t, z_bI_s, z_bL_s, z_bR_s, z_bV_s, Int.cast_ofNat_Int, beq_self_eq_true, Bool.and_true, Bool.true_and, Bool.and_self, Bool.or_true, Bool.true_or, Bool.false_and, Bool.and_false, Bool.false_or, Bool.or_false, Bool.not_false, Bool.not_true, if_true, if_false, ite_true, ite_false, z_up_eq, z_up_app, z_ro_eq, p_within, c1, zb_t, c3', ek, z_up_cm, z_up_up]
      exact ok_q
    · rw [z_up_ne _ _ (show r ≠ 26 by omega), z_up_ne _ _ (show r ≠ 25 by omega), z_up_ne _ _ (show r ≠ 20 by omega)]
    · intro A Gm s hC e hq e83
      have q := (dw_m hC).2.1
      have m1 := hC.1.2.1
      have m7 := hC.1.2.2.2.2.2.2.2.1
      have m3 := hC.1.2.2.2.1
      rw [q] at c3 ⊢
      have c3' : (9999 < A 3 + n) = False := eq_false (by omega)
      obtain ⟨B, R, em, k1, k2⟩ := p_mkeep b_ T Gm s (by rw [e]; exact m7)
      rw [e] at k2
      have hK := K_keep hC hW k1 k2
      have a8 : z_ro R 7 (B 7 + 1) 3 = A 3 := by
        have := (dw_m hK).2.1
        rw [z_up_ne _ _ (by omega), z_up_ne _ _ (by omega)] at this
        rw [← this]; exact q
      dsimp only
      rw [e_M_beat]
      simp -implicitDefEqProofs (disch := first | assumption | omega | rfl | (simp only [z_up_eq, z_up_app, ↓reduceIte, Nat.reduceEqDiff]; omega)) only [z_lit0, z_lit1, z_lit2, z_litl, iI_add, iI_sub, iI_mul, iI_neg, iI_and, iI_or, iI_xor, iI_shl, iI_shr, iI_ushr, iI_div, iI_b, iI_c, iI_i2l, lI_l2i, lI_add, lI_sub, lI_mul, lI_neg, lI_div, lI_or, lI_and, lI_shl, lI_shr, nI_iI, lg_lt0, lg_gt0, lg_eq0, i_ne0', l_ne0', iI_lt, iI_le, iI_eq, lI_lt, lI_le, lI_eq, zb_0, zb_fit, zb_fit0, zb_fit1, i_one_zero, i_w_in, z_tb0, z_tb1, z_tb2, z_tb3, z_tb4, z_tb5, z_tb6, z_tb7, z_tb8, z_tbl, z_tu0, z_tu1, z_tu2, z_i_62, z_i_63, z_i_86, z_i_88, z_l_Y, z_ui_62, z_ui_63, z_ui_86, z_ui_88, z_ul_Y, z_sz_Y, z_sw_Y, iI_nat, z_ix_t, z_at, Int.add_zero, Int.sub_zero, Int.zero_add, Int.mul_zero, ne_eq, Bool.false_eq_true, Bool.true_eq_false, reduceCtorEq, eq_self, and_true, true_and, and_false, false_and, and_self, not_true_eq_false, not_false_eq_true, decide_true, decide_false, ↓reduceIte, Int.reduceEq, Int.reduceNe, Int.reduceLT, Int.reduceLE, Int.reduceAdd, Int.reduceSub, Int.reduceMul, Int.reduceNeg, Nat.reduceAdd, Nat.reduceEqDiff, Nat.reduceBEq, ↓z_x_eq, z_g_t, z_bI_s, z_bL_s, z_bR_s, z_bV_s, Int.cast_ofNat_Int, beq_self_eq_true, Bool.and_true, Bool.true_and, Bool.and_self, Bool.or_true, Bool.true_or, Bool.false_and, Bool.and_false, Bool.false_or, Bool.or_false, Bool.not_false, Bool.not_true, if_true, if_false, ite_true, ite_false, z_up_eq, z_up_app, z_ro_eq, p_isIn, c1, zb_t, e, c3', em, z_up_up, a8]
      refine ok_ret ⟨rfl, _, s, rfl, ?_, ?_⟩
      · have a1 : z_ro R 7 (B 7 + 1) 1 = A 1 := by
          have := (dw_h hK).2.1
          rw [z_up_ne _ _ (by omega), z_up_ne _ _ (by omega)] at this
          rw [← this]; exact (dw_h hC).2.1
        have oo := dw_o hK
        have uu := dw_u hK
        have mm := dw_m hK
        rw [z_up_ne _ _ (show 21 ≠ 26 by omega), z_up_ne _ _ (show 21 ≠ 25 by omega), z_up_ne _ _ (show 22 ≠ 26 by omega), z_up_ne _ _ (show 22 ≠ 25 by omega)] at oo uu
        rw [z_up_ne _ _ (show 20 ≠ 26 by omega), z_up_ne _ _ (show 20 ≠ 25 by omega)] at mm
        generalize z_ro R 7 (B 7 + 1) = A1 at *
        have hag : ∀ q, 0 ≤ q → q < 10 → z_ro A1 3 (A 3 + n) (32 + 5 * q) = A1 (32 + 5 * q) ∧ z_ro A1 3 (A 3 + n) (32 + 5 * q + 1) = A1 (32 + 5 * q + 1) := fun q x1 x2 => ⟨z_ro_ne _ _ (by omega), z_ro_ne _ _ (by omega)⟩
        refine D_mo2 hK (fun r x1 x2 x3 => ?_) hag (fun k x1 x2 x3 => z_ro_ne _ _ (by omega)) (ag_bt hK.1 ⟨by omega, by omega⟩) ?_ (fun r x1 x2 => z_ro_ne _ _ (by omega)) ?_ (fun r x1 x2 => ?_) (fun r x1 x2 => ?_)
        · by_cases f : r = 26
          · rw [f, z_up_eq, z_up_eq]
          · rw [z_up_ne _ _ f, z_up_ne _ _ f]
            by_cases f2 : r = 25
            · rw [f2, z_up_eq, z_up_eq]
            · rw [z_up_ne _ _ f2, z_up_ne _ _ f2, z_up_ne _ _ x1]
        · intro x y x1 x2 x3 x4 x5
          rw [z_ro_ne _ _ (by omega)] at x2 x4
          rw [z_ro_ne _ _ (by omega), z_ro_ne _ _ (by omega)] at x5
          rw [z_ro_ne _ _ (by omega)]
          exact hK.2.1 x y x1 x2 x3 x4 x5
        · rw [z_up_ne _ _ (show 20 ≠ 26 by omega), z_up_ne _ _ (show 20 ≠ 25 by omega), z_up_eq]
          rw [z_ro_eq, z_ro_eq, z_ro_ne _ _ (show (2 : Int) ≠ 3 by omega), z_ro_ne _ _ (show (4 : Int) ≠ 3 by omega), z_ro_ne _ _ (show (5 : Int) ≠ 3 by omega), z_ro_ne _ _ (show (8 : Int) ≠ 3 by omega)]
          exact ⟨mm.1, rfl, mm.2.2.1, mm.2.2.2⟩
        · rw [z_up_ne _ _ (show 21 ≠ 26 by omega), z_up_ne _ _ (show 21 ≠ 25 by omega), z_up_ne _ _ (show 21 ≠ 20 by omega), z_up_ne _ _ (show 22 ≠ 26 by omega), z_up_ne _ _ (show 22 ≠ 25 by omega), z_up_ne _ _ (show 22 ≠ 20 by omega), z_ro_ne _ _ (by omega), z_ro_ne _ _ (by omega)]
          exact oo r x1 x2
        · rw [z_up_ne _ _ (show 21 ≠ 26 by omega), z_up_ne _ _ (show 21 ≠ 25 by omega), z_up_ne _ _ (show 21 ≠ 20 by omega), z_up_ne _ _ (show 22 ≠ 26 by omega), z_up_ne _ _ (show 22 ≠ 25 by omega), z_up_ne _ _ (show 22 ≠ 20 by omega)]
          exact uu r x1 x2
      · rw [z_ro_ne _ _ (by omega), z_ro_ne _ _ (by omega)]
        have := (dw_h hK).2.2.2.1
        rw [z_up_ne _ _ (by omega), z_up_ne _ _ (by omega), z_ro_ne _ _ (by omega)] at this
        rw [← this]; exact (dw_h hC).2.2.2.1
  · refine dd_same (iI (-1)) (fun h => h.elim) (fun s => ?_) ?_
    · rw [e_De_passBeats]
      by_cases d1 : 1 ≤ n ∧ n ≤ 999
      · have d3 : (9999 < G 20 3 + n) = True := eq_true (by omega)
        simp -implicitDefEqProofs (disch := first | assumption | omega | rfl | (simp only [z_up_eq, z_up_app, ↓reduceIte, Nat.reduceEqDiff]; omega)) only [z_lit0, z_lit1, z_lit2, z_litl, iI_add, iI_sub, iI_mul, iI_neg, iI_and, iI_or, iI_xor, iI_shl, iI_shr, iI_ushr, iI_div, iI_b, iI_c, iI_i2l, lI_l2i, lI_add, lI_sub, lI_mul, lI_neg, lI_div, lI_or, lI_and, lI_shl, lI_shr, nI_iI, lg_lt0, lg_gt0, lg_eq0, i_ne0', l_ne0', iI_lt, iI_le, iI_eq, lI_lt, lI_le, lI_eq, zb_0, zb_fit, zb_fit0, zb_fit1, i_one_zero, i_w_in, z_tb0, z_tb1, z_tb2, z_tb3, z_tb4, z_tb5, z_tb6, z_tb7, z_tb8, z_tbl, z_tu0, z_tu1, z_tu2, z_i_62, z_i_63, z_i_86, z_i_88, z_l_Y, z_ui_62, z_ui_63, z_ui_86, z_ui_88, z_ul_Y, z_sz_Y, z_sw_Y, iI_nat, z_ix_t, z_at, Int.add_zero, Int.sub_zero, Int.zero_add, Int.mul_zero, ne_eq, Bool.false_eq_true, Bool.true_eq_false, reduceCtorEq, eq_self, and_true, true_and, and_false, false_and, and_self, not_true_eq_false, not_false_eq_true, decide_true, decide_false, ↓reduceIte, Int.reduceEq, Int.reduceNe, Int.reduceLT, Int.reduceLE, Int.reduceAdd, Int.reduceSub, Int.reduceMul, Int.reduceNeg, Nat.reduceAdd, Nat.reduceEqDiff, Nat.reduceBEq, ↓z_x_eq, z_g_t, z_bI_s, z_bL_s, z_bR_s, z_bV_s, Int.cast_ofNat_Int, beq_self_eq_true, Bool.and_true, Bool.true_and, Bool.and_self, Bool.or_true, Bool.true_or, Bool.false_and, Bool.and_false, Bool.false_or, Bool.or_false, Bool.not_false, Bool.not_true, if_true, if_false, ite_true, ite_false, z_up_eq, z_up_app, z_ro_eq, p_within, d1, zb_t, d3]
        exact ok_q
      · simp -implicitDefEqProofs (disch := first | assumption | omega | rfl | (simp only [z_up_eq, z_up_app, ↓reduceIte, Nat.reduceEqDiff]; omega)) only [z_lit0, z_lit1, z_lit2, z_litl, iI_add, iI_sub, iI_mul, iI_neg, iI_and, iI_or, iI_xor, iI_shl, iI_shr, iI_ushr, iI_div, iI_b, iI_c, iI_i2l, lI_l2i, lI_add, lI_sub, lI_mul, lI_neg, lI_div, lI_or, lI_and, lI_shl, lI_shr, nI_iI, lg_lt0, lg_gt0, lg_eq0, i_ne0', l_ne0', iI_lt, iI_le, iI_eq, lI_lt, lI_le, lI_eq, zb_0, zb_fit, zb_fit0, zb_fit1, i_one_zero, i_w_in, z_tb0, z_tb1, z_tb2, z_tb3, z_tb4, z_tb5, z_tb6, z_tb7, z_tb8, z_tbl, z_tu0, z_tu1, z_tu2, z_i_62, z_i_63, z_i_86, z_i_88, z_l_Y, z_ui_62, z_ui_63, z_ui_86, z_ui_88, z_ul_Y, z_sz_Y, z_sw_Y, iI_nat, z_ix_t, z_at, Int.add_zero, Int.sub_zero, Int.zero_add, Int.mul_zero, ne_eq, Bool.false_eq_true, Bool.true_eq_false, reduceCtorEq, eq_self, and_true, true_and, and_false, false_and, and_self, not_true_eq_false, not_false_eq_true, decide_true, decide_false, ↓reduceIte, Int.reduceEq, Int.reduceNe, Int.reduceLT, Int.reduceLE, Int.reduceAdd, Int.reduceSub, Int.reduceMul, Int.reduceNeg, Nat.reduceAdd, Nat.reduceEqDiff, Nat.reduceBEq, ↓z_x_eq, z_g_t, z_bI_s, z_bL_s, z_bR_s, z_bV_s, Int.cast_ofNat_Int, beq_self_eq_true, Bool.and_true, Bool.true_and, Bool.and_self, Bool.or_true, Bool.true_or, Bool.false_and, Bool.and_false, Bool.false_or, Bool.or_false, Bool.not_false, Bool.not_true, if_true, if_false, ite_true, ite_false, z_up_eq, z_up_app, z_ro_eq, p_within, d1, zb_f]
        exact ok_q
    · intro A Gm s hC e hq e83
      have q := (dw_m hC).2.1
      have m3 := hC.1.2.2.2.1
      rw [q] at c1
      rw [e_M_beat]
      by_cases d1 : 1 ≤ n ∧ n ≤ 999
      · have d3 : (9999 < A 3 + n) = True := eq_true (by omega)
        simp -implicitDefEqProofs (disch := first | assumption | omega | rfl | (simp only [z_up_eq, z_up_app, ↓reduceIte, Nat.reduceEqDiff]; omega)) only [z_lit0, z_lit1, z_lit2, z_litl, iI_add, iI_sub, iI_mul, iI_neg, iI_and, iI_or, iI_xor, iI_shl, iI_shr, iI_ushr, iI_div, iI_b, iI_c, iI_i2l, lI_l2i, lI_add, lI_sub, lI_mul, lI_neg, lI_div, lI_or, lI_and, lI_shl, lI_shr, nI_iI, lg_lt0, lg_gt0, lg_eq0, i_ne0', l_ne0', iI_lt, iI_le, iI_eq, lI_lt, lI_le, lI_eq, zb_0, zb_fit, zb_fit0, zb_fit1, i_one_zero, i_w_in, z_tb0, z_tb1, z_tb2, z_tb3, z_tb4, z_tb5, z_tb6, z_tb7, z_tb8, z_tbl, z_tu0, z_tu1, z_tu2, z_i_62, z_i_63, z_i_86, z_i_88, z_l_Y, z_ui_62, z_ui_63, z_ui_86, z_ui_88, z_ul_Y, z_sz_Y, z_sw_Y, iI_nat, z_ix_t, z_at, Int.add_zero, Int.sub_zero, Int.zero_add, Int.mul_zero, ne_eq, Bool.false_eq_true, Bool.true_eq_false, reduceCtorEq, eq_self, and_true, true_and, and_false, false_and, and_self, not_true_eq_false, not_false_eq_true, decide_true, decide_false, ↓reduceIte, Int.reduceEq, Int.reduceNe, Int.reduceLT, Int.reduceLE, Int.reduceAdd, Int.reduceSub, Int.reduceMul, Int.reduceNeg, Nat.reduceAdd, Nat.reduceEqDiff, Nat.reduceBEq, ↓z_x_eq, z_g_t, z_bI_s, z_bL_s, z_bR_s, z_bV_s, Int.cast_ofNat_Int, beq_self_eq_true, Bool.and_true, Bool.true_and, Bool.and_self, Bool.or_true, Bool.true_or, Bool.false_and, Bool.and_false, Bool.false_or, Bool.or_false, Bool.not_false, Bool.not_true, if_true, if_false, ite_true, ite_false, z_up_eq, z_up_app, z_ro_eq, p_isIn, d1, zb_t, e, d3]
        exact ok_q
      · simp -implicitDefEqProofs (disch := first | assumption | omega | rfl | (simp only [z_up_eq, z_up_app, ↓reduceIte, Nat.reduceEqDiff]; omega)) only [z_lit0, z_lit1, z_lit2, z_litl, iI_add, iI_sub, iI_mul, iI_neg, iI_and, iI_or, iI_xor, iI_shl, iI_shr, iI_ushr, iI_div, iI_b, iI_c, iI_i2l, lI_l2i, lI_add, lI_sub, lI_mul, lI_neg, lI_div, lI_or, lI_and, lI_shl, lI_shr, nI_iI, lg_lt0, lg_gt0, lg_eq0, i_ne0', l_ne0', iI_lt, iI_le, iI_eq, lI_lt, lI_le, lI_eq, zb_0, zb_fit, zb_fit0, zb_fit1, i_one_zero, i_w_in, z_tb0, z_tb1, z_tb2, z_tb3, z_tb4, z_tb5, z_tb6, z_tb7, z_tb8, z_tbl, z_tu0, z_tu1, z_tu2, z_i_62, z_i_63, z_i_86, z_i_88, z_l_Y, z_ui_62, z_ui_63, z_ui_86, z_ui_88, z_ul_Y, z_sz_Y, z_sw_Y, iI_nat, z_ix_t, z_at, Int.add_zero, Int.sub_zero, Int.zero_add, Int.mul_zero, ne_eq, Bool.false_eq_true, Bool.true_eq_false, reduceCtorEq, eq_self, and_true, true_and, and_false, false_and, and_self, not_true_eq_false, not_false_eq_true, decide_true, decide_false, ↓reduceIte, Int.reduceEq, Int.reduceNe, Int.reduceLT, Int.reduceLE, Int.reduceAdd, Int.reduceSub, Int.reduceMul, Int.reduceNeg, Nat.reduceAdd, Nat.reduceEqDiff, Nat.reduceBEq, ↓z_x_eq, z_g_t, z_bI_s, z_bL_s, z_bR_s, z_bV_s, Int.cast_ofNat_Int, beq_self_eq_true, Bool.and_true, Bool.true_and, Bool.and_self, Bool.or_true, Bool.true_or, Bool.false_and, Bool.and_false, Bool.false_or, Bool.or_false, Bool.not_false, Bool.not_true, if_true, if_false, ite_true, ite_false, z_up_eq, z_up_app, z_ro_eq, p_isIn, d1, zb_f]
        exact ok_q

/-! THE PURE PART, 45: beside, seen -/
theorem D_to {A A' : Int → Int} {G G' : ZG} (hC : c_nw A G) (hg : ∀ r, 11 ≤ r → r ≤ 26 → G' r = G r) (ha : ∀ k, k ≠ 9 → k ≠ 10 → (k < 146 ∨ 186 ≤ k) → A' k = A k) (b9 : 0 ≤ A' 9 ∧ A' 9 ≤ 8) (b10 : 0 ≤ A' 10 ∧ A' 10 ≤ 8) (hb : ∀ k, 0 ≤ k → k < A' 9 → (0 ≤ A' (146 + 2 * k) ∧ A' (146 + 2 * k) ≤ 9) ∧ (0 ≤ A' (146 + 2 * k + 1) ∧ A' (146 + 2 * k + 1) ≤ 9)) (he : ∀ k, 0 ≤ k → k < A' 10 → (0 ≤ A' (162 + 3 * k) ∧ A' (162 + 3 * k) ≤ 9) ∧ (0 ≤ A' (162 + 3 * k + 1) ∧ A' (162 + 3 * k + 1) ≤ 9999) ∧ (-1 ≤ A' (162 + 3 * k + 2) ∧ A' (162 + 3 * k + 2) ≤ 1)) (hT : c_to (fun r => G' (11 + r)) A') : c_nw A' G' := by
  obtain ⟨hM, hI, ⟨h1, h2, h3, h4, h5, h6, h8, h9⟩, ⟨o1, o2, o3, o4⟩, -, ⟨p1, p2, p3, p4⟩⟩ := hC
  obtain ⟨m0, m1, m2, m3, m4, m5, m6, m7, m8, m9, m10, m11, ms, mp, mn, mc, mb, me⟩ := hM
  have e0 : A' 0 = A 0 := ha 0 (by omega) (by omega) (by omega)
  have e1 : A' 1 = A 1 := ha 1 (by omega) (by omega) (by omega)
  have e2 : A' 2 = A 2 := ha 2 (by omega) (by omega) (by omega)
  have e3 : A' 3 = A 3 := ha 3 (by omega) (by omega) (by omega)
  have e4 : A' 4 = A 4 := ha 4 (by omega) (by omega) (by omega)
  have e5 : A' 5 = A 5 := ha 5 (by omega) (by omega) (by omega)
  have e6 : A' 6 = A 6 := ha 6 (by omega) (by omega) (by omega)
  have e7 : A' 7 = A 7 := ha 7 (by omega) (by omega) (by omega)
  have e8 : A' 8 = A 8 := ha 8 (by omega) (by omega) (by omega)
  have e11 : A' 11 = A 11 := ha 11 (by omega) (by omega) (by omega)
  have em : ∀ k, 11 ≤ k → k < 146 ∨ 186 ≤ k → A' k = A k := fun k a b => ha k (by omega) (by omega) b
  refine ⟨?_, ?_, ?_, ?_, hT, ?_⟩
  · unfold m_ok
    rw [e0, e1, e2, e3, e4, e5, e6, e7, e8, e11]
    refine ⟨m0, m1, m2, m3, m4, m5, m6, m7, m8, b9, b10, m11, fun k a b => ?_, fun k a b => ?_, fun k a b => ?_, fun k a b => ?_, hb, he⟩
    · rw [em _ (by omega) (by omega), em _ (by omega) (by omega)]; exact ms k a b
    · rw [em _ (by omega) (by omega), em _ (by omega) (by omega), em _ (by omega) (by omega), em _ (by omega) (by omega), em _ (by omega) (by omega)]; exact mp k a b
    · rw [em _ (by omega) (by omega), em _ (by omega) (by omega)]; exact mn k a b
    · rw [em _ (by omega) (by omega), em _ (by omega) (by omega)]; exact mc k a b
  · intro p q a b a' b' f
    rw [e1] at b b'
    rw [em _ (by omega) (by omega), em _ (by omega) (by omega)] at f
    rw [em _ (by omega) (by omega)]
    exact hI p q a b a' b' f
  · unfold c_hs
    dsimp only
    rw [hg (11 + 0) (by omega) (by omega), hg (11 + 1) (by omega) (by omega), hg (11 + 2) (by omega) (by omega), hg (11 + 3) (by omega) (by omega), hg (11 + 4) (by omega) (by omega), hg (11 + 5) (by omega) (by omega), hg (11 + 6) (by omega) (by omega), hg (11 + 7) (by omega) (by omega), e0, e1, e2, e5, e6]
    refine ⟨h1, h2, h3, h4, h5, fun k a b => ?_, fun k a b => ?_, fun k a b => ?_⟩
    · rw [em _ (by omega) (by omega), em _ (by omega) (by omega)]; exact h6 k a b
    · rw [em _ (by omega) (by omega), em _ (by omega) (by omega), em _ (by omega) (by omega)]; exact h8 k a b
    · rw [em _ (by omega) (by omega), em _ (by omega) (by omega)]; exact h9 k a b
  · unfold c_mo
    dsimp only
    rw [hg (11 + 9) (by omega) (by omega), hg (11 + 10) (by omega) (by omega), hg (11 + 11) (by omega) (by omega), hg (11 + 12) (by omega) (by omega), hg (11 + 13) (by omega) (by omega), e1, e3, e4, e8, e11]
    refine ⟨o1, fun k a b => ?_, o3, fun k a b => ?_⟩
    · rw [em _ (by omega) (by omega), em _ (by omega) (by omega)]; exact o2 k a b
    · rw [em _ (by omega) (by omega), em _ (by omega) (by omega)]; exact o4 k a b
  · unfold c_sp
    dsimp only
    rw [hg (11 + 14) (by omega) (by omega), hg (11 + 15) (by omega) (by omega), e7]
    refine ⟨p1, p2, fun j a b => ?_, fun i j a b c => ?_⟩
    · exact st_tr (p3 j a b) (fun _ _ _ => rfl) (fun k a b => em _ (by omega) (by omega)) (by omega) (by omega) (by omega) (by omega) (by omega) (fun k a b => em _ (by omega) (by omega))
    · rw [em _ (by omega) (by omega), em _ (by omega) (by omega)]; exact p4 i j a b c
theorem t_beside (d : Nat) {S0 : ZG} {c : Int} {T : ZT} {G : ZG} (h : z_I S0 c T G) (hc : c < 600) {p w : Int} (hp : i_in p) (hw : i_in w) : z_pwr S0 c T G (fun σ => z_call (d + 2) 296 [vr 10, vi (iI p), vi (iI w)] σ) (fun σ => z_call (d + 3) 297 [vr 80, vi (iI p), vi (iI w)] σ) := by
  have hC := h.1
  have q9 := (dw_b hC).1
  have q1 := (dw_h hC).2.1
  have m1 := hC.1.2.1
  have m9 := hC.1.2.2.2.2.2.2.2.2.2.1
  refine pr_dd (k := False) h hc ?_
  by_cases c0 : p = -1
  · refine ⟨iI 0, z_up G 27 (z_ro (G 27) 0 0), fun x => x.elim, fun s => ?_, fun r a => z_up_ne _ _ (by omega), fun A Gm s hA e q e2 => ?_⟩
    · dsimp only
      rw [e_B_beside]
      simp -implicitDefEqProofs (disch := first | assumption | omega | rfl | (simp only [z_up_eq, z_up_app, ↓reduceIte, Nat.reduceEqDiff]; omega)) only [z_lit0, z_lit1, z_lit2, z_litl, iI_add, iI_sub, iI_mul, iI_neg, iI_and, iI_or, iI_xor, iI_shl, iI_shr, iI_ushr, iI_div, iI_b, iI_c, iI_i2l, lI_l2i, lI_add, lI_sub, lI_mul, lI_neg, lI_div, lI_or, lI_and, lI_shl, lI_shr, nI_iI, lg_lt0, lg_gt0, lg_eq0, i_ne0', l_ne0', iI_lt, iI_le, iI_eq, lI_lt, lI_le, lI_eq, zb_0, zb_fit, zb_fit0, zb_fit1, i_one_zero, i_w_in, z_tb0, z_tb1, z_tb2, z_tb3, z_tb4, z_tb5, z_tb6, z_tb7, z_tb8, z_tbl, z_tu0, z_tu1, z_tu2, z_i_62, z_i_63, z_i_86, z_i_88, z_l_Y, z_ui_62, z_ui_63, z_ui_86, z_ui_88, z_ul_Y, z_sz_Y, z_sw_Y, iI_nat, z_ix_t, z_at, Int.add_zero, Int.sub_zero, Int.zero_add, Int.mul_zero, ne_eq, Bool.false_eq_true, Bool.true_eq_false, reduceCtorEq, eq_self, and_true, true_and, and_false, false_and, and_self, not_true_eq_false, not_false_eq_true, decide_true, decide_false, ↓reduceIte, Int.reduceEq, Int.reduceNe, Int.reduceLT, Int.reduceLE, Int.reduceAdd, Int.reduceSub, Int.reduceMul, Int.reduceNeg, Nat.reduceAdd, Nat.reduceEqDiff, Nat.reduceBEq, ↓z_x_eq, z_g_t, z_bI_s, z_bL_s, z_bR_s, z_bV_s, Int.cast_ofNat_Int, beq_self_eq_true, Bool.and_true, Bool.true_and, Bool.and_self, Bool.or_true, Bool.true_or, Bool.false_and, Bool.and_false, Bool.false_or, Bool.or_false, Bool.not_false, Bool.not_true, if_true, if_false, ite_true, ite_false, z_up_eq, z_up_app, z_ro_eq, c0]
      exact ok_q
    · dsimp only
      rw [e_M_beside]
      simp -implicitDefEqProofs (disch := first | assumption | omega | rfl | (simp only [z_up_eq, z_up_app, ↓reduceIte, Nat.reduceEqDiff]; omega)) only [z_lit0, z_lit1, z_lit2, z_litl, iI_add, iI_sub, iI_mul, iI_neg, iI_and, iI_or, iI_xor, iI_shl, iI_shr, iI_ushr, iI_div, iI_b, iI_c, iI_i2l, lI_l2i, lI_add, lI_sub, lI_mul, lI_neg, lI_div, lI_or, lI_and, lI_shl, lI_shr, nI_iI, lg_lt0, lg_gt0, lg_eq0, i_ne0', l_ne0', iI_lt, iI_le, iI_eq, lI_lt, lI_le, lI_eq, zb_0, zb_fit, zb_fit0, zb_fit1, i_one_zero, i_w_in, z_tb0, z_tb1, z_tb2, z_tb3, z_tb4, z_tb5, z_tb6, z_tb7, z_tb8, z_tbl, z_tu0, z_tu1, z_tu2, z_i_62, z_i_63, z_i_86, z_i_88, z_l_Y, z_ui_62, z_ui_63, z_ui_86, z_ui_88, z_ul_Y, z_sz_Y, z_sw_Y, iI_nat, z_ix_t, z_at, Int.add_zero, Int.sub_zero, Int.zero_add, Int.mul_zero, ne_eq, Bool.false_eq_true, Bool.true_eq_false, reduceCtorEq, eq_self, and_true, true_and, and_false, false_and, and_self, not_true_eq_false, not_false_eq_true, decide_true, decide_false, ↓reduceIte, Int.reduceEq, Int.reduceNe, Int.reduceLT, Int.reduceLE, Int.reduceAdd, Int.reduceSub, Int.reduceMul, Int.reduceNeg, Nat.reduceAdd, Nat.reduceEqDiff, Nat.reduceBEq, ↓z_x_eq, z_g_t, z_bI_s, z_bL_s, z_bR_s, z_bV_s, Int.cast_ofNat_Int, beq_self_eq_true, Bool.and_true, Bool.true_and, Bool.and_self, Bool.or_true, Bool.true_or, Bool.false_and, Bool.and_false, Bool.false_or, Bool.or_false, Bool.not_false, Bool.not_true, if_true, if_false, ite_true, ite_false, z_up_eq, z_up_app, z_ro_eq, c0, e]
      refine ok_ret ⟨rfl, _, s, rfl, ?_, z_ro_ne _ _ (by omega)⟩
      have x10 := hA.1.2.2.2.2.2.2.2.2.2.2.1
      have xe := hA.1.2.2.2.2.2.2.2.2.2.2.2.2.2.2.2.2.2
      obtain ⟨d1, d2⟩ := dw_e hA
      refine D_to hA (fun r x1 x2 => z_up_ne _ _ (by omega)) (fun k x1 x2 x3 => z_ro_ne _ _ x1) (by rw [z_ro_eq]; omega) (by rw [z_ro_ne _ _ (by omega)]; exact x10) (fun k x1 x2 => by rw [z_ro_eq] at x2; omega) (fun k x1 x2 => ?_) ?_
      · rw [z_ro_ne _ _ (by omega)] at x2
        rw [z_ro_ne _ _ (by omega), z_ro_ne _ _ (by omega), z_ro_ne _ _ (by omega)]; exact xe k x1 x2
      · unfold c_to
        dsimp only
        simp only [Nat.reduceAdd]
        rw [z_up_eq, z_ro_eq, z_ro_eq, z_ro_ne _ _ (show (3 : Int) ≠ 0 by omega), z_ro_ne _ _ (show (10 : Int) ≠ 9 by omega), z_up_ne _ _ (show 30 ≠ 27 by omega), z_up_ne _ _ (show 31 ≠ 27 by omega), z_up_ne _ _ (show 32 ≠ 27 by omega)]
        refine ⟨rfl, fun k x1 x2 => by omega, d1, fun k x1 x2 => ?_⟩
        rw [z_ro_ne _ _ (by omega), z_ro_ne _ _ (by omega), z_ro_ne _ _ (by omega)]; exact d2 k x1 x2
  · by_cases c1 : (0 ≤ p ∧ p ≤ G 11 3 - 1) ∧ (0 ≤ w ∧ w ≤ G 11 3 - 1) ∧ p ≠ w ∧ G 27 0 < 8
    · obtain ⟨c1, c2, c3, c4⟩ := c1
      refine ⟨iI (G 27 0 + 1), z_up (z_up (z_up G 27 (z_ro (G 27) 0 (G 27 0 + 1))) 28 (z_ro (G 28) (G 27 0) p)) 29 (z_ro (G 29) (G 27 0) w), fun x => x.elim, fun s => ?_, fun r a => ?_, fun A Gm s hA e q e2 => ?_⟩
      · dsimp only
        rw [e_B_beside]
        simp -implicitDefEqProofs (disch := first | assumption | omega | rfl | (simp only [z_up_eq, z_up_app, ↓reduceIte, Nat.reduceEqDiff]; omega)) only [z_lit0, z_lit1, z_lit2, z_litl, iI_add, iI_sub, iI_mul, iI_neg, iI_and, iI_or, iI_xor, iI_shl, iI_shr, iI_ushr, iI_div, iI_b, iI_c, iI_i2l, lI_l2i, lI_add, lI_sub, lI_mul, lI_neg, lI_div, lI_or, lI_and, lI_shl, lI_shr, nI_iI, lg_lt0, lg_gt0, lg_eq0, i_ne0', l_ne0', iI_lt, iI_le, iI_eq, lI_lt, lI_le, lI_eq, zb_0, zb_fit, zb_fit0, zb_fit1, i_one_zero, i_w_in, z_tb0, z_tb1, z_tb2, z_tb3, z_tb4, z_tb5, z_tb6, z_tb7, z_tb8, z_tbl, z_tu0, z_tu1, z_tu2, z_i_62, z_i_63, z_i_86, z_i_88, z_l_Y, z_ui_62, z_ui_63, z_ui_86, z_ui_88, z_ul_Y, z_sz_Y, z_sw_Y, iI_nat, z_ix_t, z_at, Int.add_zero, Int.sub_zero, Int.zero_add, Int.mul_zero, ne_eq, Bool.false_eq_true, Bool.true_eq_false, reduceCtorEq, eq_self, and_true, true_and, and_false, false_and, and_self, not_true_eq_false, not_false_eq_true, decide_true, decide_false, ↓reduceIte, Int.reduceEq, Int.reduceNe, Int.reduceLT, Int.reduceLE, Int.reduceAdd, Int.reduceSub, Int.reduceMul, Int.reduceNeg, Nat.reduceAdd, Nat.reduceEqDiff, Nat.reduceBEq, ↓z_x_eq, z_g_t, z_bI_s, z_bL_s, z_bR_s, z_bV_s, Int.cast_ofNat_Int, beq_self_eq_true, Bool.and_true, Bool.true_and, Bool.and_self, Bool.or_true, Bool.true_or, Bool.false_and, Bool.and_false, Bool.false_or, Bool.or_false, Bool.not_false, Bool.not_true, if_true, if_false, ite_true, ite_false, z_up_eq, z_up_app, z_ro_eq, c0, p_hasPerson, c1, c2, c3, c4, zb_t, e_To_addBeside, z_up_up, z_up_cm]
        exact ok_q
      · rw [z_up_ne _ _ (by omega), z_up_ne _ _ (by omega), z_up_ne _ _ (by omega)]
      · have q1' := (dw_h hA).2.1
        have q9' := (dw_b hA).1
        have x9 := hA.1.2.2.2.2.2.2.2.2.2.1
        have x1' := hA.1.2.1
        have x10 := hA.1.2.2.2.2.2.2.2.2.2.2.1
        have xb := hA.1.2.2.2.2.2.2.2.2.2.2.2.2.2.2.2.2.1
        have xe := hA.1.2.2.2.2.2.2.2.2.2.2.2.2.2.2.2.2.2
        obtain ⟨d1, d2⟩ := dw_e hA
        obtain ⟨b1, b2⟩ := dw_b hA
        rw [q9'] at c4
        rw [q1'] at c1 c2
        have n8 : (A 9 = 8) = False := eq_false (by omega)
        have pi := fun x hx => p_isPerson d T Gm s (x := x) ⟨hx, by rw [e]; exact x1'⟩
        rw [e] at pi
        have pi1 := pi p hp
        have pi2 := pi w hw
        have r1 : z_ro A (146 + 2 * A 9) p 9 = A 9 := z_ro_ne _ _ (by omega)
        have r2 : z_ro (z_ro A (146 + 2 * A 9) p) (146 + 2 * A 9 + 1) w 9 = A 9 := by rw [z_ro_ne _ _ (by omega)]; exact r1
        dsimp only
        rw [e_M_beside]
        simp -implicitDefEqProofs (disch := first | assumption | omega | rfl | (simp only [z_up_eq, z_up_app, ↓reduceIte, Nat.reduceEqDiff]; omega)) only [z_lit0, z_lit1, z_lit2, z_litl, iI_add, iI_sub, iI_mul, iI_neg, iI_and, iI_or, iI_xor, iI_shl, iI_shr, iI_ushr, iI_div, iI_b, iI_c, iI_i2l, lI_l2i, lI_add, lI_sub, lI_mul, lI_neg, lI_div, lI_or, lI_and, lI_shl, lI_shr, nI_iI, lg_lt0, lg_gt0, lg_eq0, i_ne0', l_ne0', iI_lt, iI_le, iI_eq, lI_lt, lI_le, lI_eq, zb_0, zb_fit, zb_fit0, zb_fit1, i_one_zero, i_w_in, z_tb0, z_tb1, z_tb2, z_tb3, z_tb4, z_tb5, z_tb6, z_tb7, z_tb8, z_tbl, z_tu0, z_tu1, z_tu2, z_i_62, z_i_63, z_i_86, z_i_88, z_l_Y, z_ui_62, z_ui_63, z_ui_86, z_ui_88, z_ul_Y, z_sz_Y, z_sw_Y, iI_nat, z_ix_t, z_at, Int.add_zero, Int.sub_zero, Int.zero_add, Int.mul_zero, ne_eq, Bool.false_eq_true, Bool.true_eq_false, reduceCtorEq, eq_self, and_true, true_and, and_false, false_and, and_self, not_true_eq_false, not_false_eq_true, decide_true, decide_false, ↓reduceIte, Int.reduceEq, Int.reduceNe, Int.reduceLT, Int.reduceLE, Int.reduceAdd, Int.reduceSub, Int.reduceMul, Int.reduceNeg, Nat.reduceAdd, Nat.reduceEqDiff, Nat.reduceBEq, ↓z_x_eq, z_g_t, z_bI_s, z_bL_s, z_bR_s, z_bV_s, Int.cast_ofNat_Int, beq_self_eq_true, Bool.and_true, Bool.true_and, Bool.and_self, Bool.or_true, Bool.true_or, Bool.false_and, Bool.and_false, Bool.false_or, Bool.or_false, Bool.not_false, Bool.not_true, if_true, if_false, ite_true, ite_false, z_up_eq, z_up_app, z_ro_eq, c0, pi1, pi2, c1, c2, c3, zb_t, e, n8, z_up_up, r1, r2]
        rw [q9']
        refine ok_ret ⟨rfl, _, s, rfl, ?_, by rw [z_ro_ne _ _ (by omega), z_ro_ne _ _ (by omega), z_ro_ne _ _ (by omega)]⟩
        refine D_to hA (fun r x1 x2 => by rw [z_up_ne _ _ (by omega), z_up_ne _ _ (by omega), z_up_ne _ _ (by omega)]) (fun k x1 x2 x3 => by rw [z_ro_ne _ _ x1, z_ro_ne _ _ (by omega), z_ro_ne _ _ (by omega)]) (by rw [z_ro_eq]; omega) (by rw [z_ro_ne _ _ (by omega), z_ro_ne _ _ (by omega), z_ro_ne _ _ (by omega)]; exact x10) (fun k x1 x2 => ?_) (fun k x1 x2 => ?_) ?_
        · rw [z_ro_eq] at x2
          rw [z_ro_ne _ _ (show 146 + 2 * k ≠ 9 by omega), z_ro_ne _ _ (show 146 + 2 * k + 1 ≠ 9 by omega), z_ro_ne _ _ (show 146 + 2 * k ≠ 146 + 2 * A 9 + 1 by omega)]
          by_cases f : k = A 9
          · rw [f, z_ro_eq, z_ro_eq]; exact ⟨by omega, by omega⟩
          · rw [z_ro_ne _ _ (by omega), z_ro_ne _ _ (by omega), z_ro_ne _ _ (by omega)]; exact xb k x1 (by omega)
        · rw [z_ro_ne _ _ (by omega), z_ro_ne _ _ (by omega), z_ro_ne _ _ (by omega)] at x2
          rw [z_ro_ne _ _ (by omega), z_ro_ne _ _ (by omega), z_ro_ne _ _ (by omega), z_ro_ne _ _ (by omega), z_ro_ne _ _ (by omega), z_ro_ne _ _ (by omega), z_ro_ne _ _ (by omega), z_ro_ne _ _ (by omega), z_ro_ne _ _ (by omega)]; exact xe k x1 x2
        · unfold c_to
          dsimp only
          simp only [Nat.reduceAdd, z_up_app, Nat.reduceEqDiff, ↓reduceIte]
          rw [z_ro_eq, z_ro_eq, z_ro_ne _ _ (show (3 : Int) ≠ 0 by omega), z_ro_ne _ _ (show (10 : Int) ≠ 9 by omega), z_ro_ne _ _ (show (10 : Int) ≠ 146 + 2 * A 9 + 1 by omega), z_ro_ne _ _ (show (10 : Int) ≠ 146 + 2 * A 9 by omega)]
          refine ⟨rfl, fun k x1 x2 => ?_, d1, fun k x1 x2 => ?_⟩
          · rw [z_ro_ne _ _ (show 146 + 2 * k ≠ 9 by omega), z_ro_ne _ _ (show 146 + 2 * k + 1 ≠ 9 by omega), z_ro_ne _ _ (show 146 + 2 * k ≠ 146 + 2 * A 9 + 1 by omega)]
            by_cases f : k = A 9
            · rw [f, z_ro_eq, z_ro_eq, z_ro_eq, z_ro_eq]; exact ⟨rfl, rfl⟩
            · rw [z_ro_ne _ _ f, z_ro_ne _ _ f, z_ro_ne _ _ (by omega), z_ro_ne _ _ (by omega), z_ro_ne _ _ (by omega)]; exact b2 k x1 (by omega)
          · rw [z_ro_ne _ _ (by omega), z_ro_ne _ _ (by omega), z_ro_ne _ _ (by omega), z_ro_ne _ _ (by omega), z_ro_ne _ _ (by omega), z_ro_ne _ _ (by omega), z_ro_ne _ _ (by omega), z_ro_ne _ _ (by omega), z_ro_ne _ _ (by omega)]; exact d2 k x1 x2
    · refine dd_same (iI (-2)) (fun x => x.elim) (fun s => ?_) (fun A Gm s hA e q e2 => ?_)
      · rw [e_B_beside]
        by_cases d1 : 0 ≤ p ∧ p ≤ G 11 3 - 1
        · by_cases d2 : 0 ≤ w ∧ w ≤ G 11 3 - 1
          · by_cases d3 : p = w
            · have d3' : (p = w) = True := eq_true d3
              simp -implicitDefEqProofs (disch := first | assumption | omega | rfl | (simp only [z_up_eq, z_up_app, ↓reduceIte, Nat.reduceEqDiff]; omega)) only [z_lit0, z_lit1, z_lit2, z_litl, iI_add, iI_sub, iI_mul, iI_neg, iI_and, iI_or, iI_xor, iI_shl, iI_shr, iI_ushr, iI_div, iI_b, iI_c, iI_i2l, lI_l2i, lI_add, lI_sub, lI_mul, lI_neg, lI_div, lI_or, lI_and, lI_shl, lI_shr, nI_iI, lg_lt0, lg_gt0, lg_eq0, i_ne0', l_ne0', iI_lt, iI_le, iI_eq, lI_lt, lI_le, lI_eq, zb_0, zb_fit, zb_fit0, zb_fit1, i_one_zero, i_w_in, z_tb0, z_tb1, z_tb2, z_tb3, z_tb4, z_tb5, z_tb6, z_tb7, z_tb8, z_tbl, z_tu0, z_tu1, z_tu2, z_i_62, z_i_63, z_i_86, z_i_88, z_l_Y, z_ui_62, z_ui_63, z_ui_86, z_ui_88, z_ul_Y, z_sz_Y, z_sw_Y, iI_nat, z_ix_t, z_at, Int.add_zero, Int.sub_zero, Int.zero_add, Int.mul_zero, ne_eq, Bool.false_eq_true, Bool.true_eq_false, reduceCtorEq, eq_self, and_true, true_and, and_false, false_and, and_self, not_true_eq_false, not_false_eq_true, decide_true, decide_false, ↓reduceIte, Int.reduceEq, Int.reduceNe, Int.reduceLT, Int.reduceLE, Int.reduceAdd, Int.reduceSub, Int.reduceMul, Int.reduceNeg, Nat.reduceAdd, Nat.reduceEqDiff, Nat.reduceBEq, ↓z_x_eq, z_g_t, z_bI_s, z_bL_s, z_bR_s, z_bV_s, Int.cast_ofNat_Int, beq_self_eq_true, Bool.and_true, Bool.true_and, Bool.and_self, Bool.or_true, Bool.true_or, Bool.false_and, Bool.and_false, Bool.false_or, Bool.or_false, Bool.not_false, Bool.not_true, if_true, if_false, ite_true, ite_false, z_up_eq, z_up_app, z_ro_eq, c0, p_hasPerson, d1, d2, d3', zb_t]
              exact ok_q
            · have d4 : (G 27 0 < 8) = False := eq_false (fun f => c1 ⟨d1, d2, d3, f⟩)
              simp -implicitDefEqProofs (disch := first | assumption | omega | rfl | (simp only [z_up_eq, z_up_app, ↓reduceIte, Nat.reduceEqDiff]; omega)) only [z_lit0, z_lit1, z_lit2, z_litl, iI_add, iI_sub, iI_mul, iI_neg, iI_and, iI_or, iI_xor, iI_shl, iI_shr, iI_ushr, iI_div, iI_b, iI_c, iI_i2l, lI_l2i, lI_add, lI_sub, lI_mul, lI_neg, lI_div, lI_or, lI_and, lI_shl, lI_shr, nI_iI, lg_lt0, lg_gt0, lg_eq0, i_ne0', l_ne0', iI_lt, iI_le, iI_eq, lI_lt, lI_le, lI_eq, zb_0, zb_fit, zb_fit0, zb_fit1, i_one_zero, i_w_in, z_tb0, z_tb1, z_tb2, z_tb3, z_tb4, z_tb5, z_tb6, z_tb7, z_tb8, z_tbl, z_tu0, z_tu1, z_tu2, z_i_62, z_i_63, z_i_86, z_i_88, z_l_Y, z_ui_62, z_ui_63, z_ui_86, z_ui_88, z_ul_Y, z_sz_Y, z_sw_Y, iI_nat, z_ix_t, z_at, Int.add_zero, Int.sub_zero, Int.zero_add, Int.mul_zero, ne_eq, Bool.false_eq_true, Bool.true_eq_false, reduceCtorEq, eq_self, and_true, true_and, and_false, false_and, and_self, not_true_eq_false, not_false_eq_true, decide_true, decide_false, ↓reduceIte, Int.reduceEq, Int.reduceNe, Int.reduceLT, Int.reduceLE, Int.reduceAdd, Int.reduceSub, Int.reduceMul, Int.reduceNeg, Nat.reduceAdd, Nat.reduceEqDiff, Nat.reduceBEq, ↓z_x_eq, z_g_t, z_bI_s, z_bL_s, z_bR_s, z_bV_s, Int.cast_ofNat_Int, beq_self_eq_true, Bool.and_true, Bool.true_and, Bool.and_self, Bool.or_true, Bool.true_or, Bool.false_and, Bool.and_false, Bool.false_or, Bool.or_false, Bool.not_false, Bool.not_true, if_true, if_false, ite_true, ite_false, z_up_eq, z_up_app, z_ro_eq, c0, p_hasPerson, d1, d2, d3, zb_t, e_To_addBeside, d4]
              exact ok_q
          · simp -implicitDefEqProofs (disch := first | assumption | omega | rfl | (simp only [z_up_eq, z_up_app, ↓reduceIte, Nat.reduceEqDiff]; omega)) only [z_lit0, z_lit1, z_lit2, z_litl, iI_add, iI_sub, iI_mul, iI_neg, iI_and, iI_or, iI_xor, iI_shl, iI_shr, iI_ushr, iI_div, iI_b, iI_c, iI_i2l, lI_l2i, lI_add, lI_sub, lI_mul, lI_neg, lI_div, lI_or, lI_and, lI_shl, lI_shr, nI_iI, lg_lt0, lg_gt0, lg_eq0, i_ne0', l_ne0', iI_lt, iI_le, iI_eq, lI_lt, lI_le, lI_eq, zb_0, zb_fit, zb_fit0, zb_fit1, i_one_zero, i_w_in, z_tb0, z_tb1, z_tb2, z_tb3, z_tb4, z_tb5, z_tb6, z_tb7, z_tb8, z_tbl, z_tu0, z_tu1, z_tu2, z_i_62, z_i_63, z_i_86, z_i_88, z_l_Y, z_ui_62, z_ui_63, z_ui_86, z_ui_88, z_ul_Y, z_sz_Y, z_sw_Y, iI_nat, z_ix_t, z_at, Int.add_zero, Int.sub_zero, Int.zero_add, Int.mul_zero, ne_eq, Bool.false_eq_true, Bool.true_eq_false, reduceCtorEq, eq_self, and_true, true_and, and_false, false_and, and_self, not_true_eq_false, not_false_eq_true, decide_true, decide_false, ↓reduceIte, Int.reduceEq, Int.reduceNe, Int.reduceLT, Int.reduceLE, Int.reduceAdd, Int.reduceSub, Int.reduceMul, Int.reduceNeg, Nat.reduceAdd, Nat.reduceEqDiff, Nat.reduceBEq, ↓z_x_eq, z_g_t, z_bI_s, z_bL_s, z_bR_s, z_bV_s, Int.cast_ofNat_Int, beq_self_eq_true, Bool.and_true, Bool.true_and, Bool.and_self, Bool.or_true, Bool.true_or, Bool.false_and, Bool.and_false, Bool.false_or, Bool.or_false, Bool.not_false, Bool.not_true, if_true, if_false, ite_true, ite_false, z_up_eq, z_up_app, z_ro_eq, c0, p_hasPerson, d1, d2, zb_t, zb_f]
            exact ok_q
        · simp -implicitDefEqProofs (disch := first | assumption | omega | rfl | (simp only [z_up_eq, z_up_app, ↓reduceIte, Nat.reduceEqDiff]; omega)) only [z_lit0, z_lit1, z_lit2, z_litl, iI_add, iI_sub, iI_mul, iI_neg, iI_and, iI_or, iI_xor, iI_shl, iI_shr, iI_ushr, iI_div, iI_b, iI_c, iI_i2l, lI_l2i, lI_add, lI_sub, lI_mul, lI_neg, lI_div, lI_or, lI_and, lI_shl, lI_shr, nI_iI, lg_lt0, lg_gt0, lg_eq0, i_ne0', l_ne0', iI_lt, iI_le, iI_eq, lI_lt, lI_le, lI_eq, zb_0, zb_fit, zb_fit0, zb_fit1, i_one_zero, i_w_in, z_tb0, z_tb1, z_tb2, z_tb3, z_tb4, z_tb5, z_tb6, z_tb7, z_tb8, z_tbl, z_tu0, z_tu1, z_tu2, z_i_62, z_i_63, z_i_86, z_i_88, z_l_Y, z_ui_62, z_ui_63, z_ui_86, z_ui_88, z_ul_Y, z_sz_Y, z_sw_Y, iI_nat, z_ix_t, z_at, Int.add_zero, Int.sub_zero, Int.zero_add, Int.mul_zero, ne_eq, Bool.false_eq_true, Bool.true_eq_false, reduceCtorEq, eq_self, and_true, true_and, and_false, false_and, and_self, not_true_eq_false, not_false_eq_true, decide_true, decide_false, ↓reduceIte, Int.reduceEq, Int.reduceNe, Int.reduceLT, Int.reduceLE, Int.reduceAdd, Int.reduceSub, Int.reduceMul, Int.reduceNeg, Nat.reduceAdd, Nat.reduceEqDiff, Nat.reduceBEq, ↓z_x_eq, z_g_t, z_bI_s, z_bL_s, z_bR_s, z_bV_s, Int.cast_ofNat_Int, beq_self_eq_true, Bool.and_true, Bool.true_and, Bool.and_self, Bool.or_true, Bool.true_or, Bool.false_and, Bool.and_false, Bool.false_or, Bool.or_false, Bool.not_false, Bool.not_true, if_true, if_false, ite_true, ite_false, z_up_eq, z_up_app, z_ro_eq, c0, p_hasPerson, d1, zb_f]
          exact ok_q
      · have q1' := (dw_h hA).2.1
        have q9' := (dw_b hA).1
        have x1' := hA.1.2.1
        have x9 := hA.1.2.2.2.2.2.2.2.2.2.1
        rw [q9', q1'] at c1
        have pi := fun x hx => p_isPerson d T Gm s (x := x) ⟨hx, by rw [e]; exact x1'⟩
        rw [e] at pi
        have pi1 := pi p hp
        have pi2 := pi w hw
        rw [e_M_beside]
        by_cases d1 : 0 ≤ p ∧ p ≤ A 1 - 1
        · by_cases d2 : 0 ≤ w ∧ w ≤ A 1 - 1
          · by_cases d3 : p = w
            · have d3' : (p = w) = True := eq_true d3
              simp -implicitDefEqProofs (disch := first | assumption | omega | rfl | (simp only [z_up_eq, z_up_app, ↓reduceIte, Nat.reduceEqDiff]; omega)) only [z_lit0, z_lit1, z_lit2, z_litl, iI_add, iI_sub, iI_mul, iI_neg, iI_and, iI_or, iI_xor, iI_shl, iI_shr, iI_ushr, iI_div, iI_b, iI_c, iI_i2l, lI_l2i, lI_add, lI_sub, lI_mul, lI_neg, lI_div, lI_or, lI_and, lI_shl, lI_shr, nI_iI, lg_lt0, lg_gt0, lg_eq0, i_ne0', l_ne0', iI_lt, iI_le, iI_eq, lI_lt, lI_le, lI_eq, zb_0, zb_fit, zb_fit0, zb_fit1, i_one_zero, i_w_in, z_tb0, z_tb1, z_tb2, z_tb3, z_tb4, z_tb5, z_tb6, z_tb7, z_tb8, z_tbl, z_tu0, z_tu1, z_tu2, z_i_62, z_i_63, z_i_86, z_i_88, z_l_Y, z_ui_62, z_ui_63, z_ui_86, z_ui_88, z_ul_Y, z_sz_Y, z_sw_Y, iI_nat, z_ix_t, z_at, Int.add_zero, Int.sub_zero, Int.zero_add, Int.mul_zero, ne_eq, Bool.false_eq_true, Bool.true_eq_false, reduceCtorEq, eq_self, and_true, true_and, and_false, false_and, and_self, not_true_eq_false, not_false_eq_true, decide_true, decide_false, ↓reduceIte, Int.reduceEq, Int.reduceNe, Int.reduceLT, Int.reduceLE, Int.reduceAdd, Int.reduceSub, Int.reduceMul, Int.reduceNeg, Nat.reduceAdd, Nat.reduceEqDiff, Nat.reduceBEq, ↓z_x_eq, z_g_t, z_bI_s, z_bL_s, z_bR_s, z_bV_s, Int.cast_ofNat_Int, beq_self_eq_true, Bool.and_true, Bool.true_and, Bool.and_self, Bool.or_true, Bool.true_or, Bool.false_and, Bool.and_false, Bool.false_or, Bool.or_false, Bool.not_false, Bool.not_true, if_true, if_false, ite_true, ite_false, z_up_eq, z_up_app, z_ro_eq, c0, pi1, pi2, d1, d2, d3', zb_t]
              exact ok_q
            · have d4 : (A 9 = 8) = True := eq_true (by
                by_cases f : A 9 = 8
                · exact f
                · exact absurd ⟨d1, d2, d3, by omega⟩ c1)
              simp -implicitDefEqProofs (disch := first | assumption | omega | rfl | (simp only [z_up_eq, z_up_app, ↓reduceIte, Nat.reduceEqDiff]; omega)) only [z_lit0, z_lit1, z_lit2, z_litl, iI_add, iI_sub, iI_mul, iI_neg, iI_and, iI_or, iI_xor, iI_shl, iI_shr, iI_ushr, iI_div, iI_b, iI_c, iI_i2l, lI_l2i, lI_add, lI_sub, lI_mul, lI_neg, lI_div, lI_or, lI_and, lI_shl, lI_shr, nI_iI, lg_lt0, lg_gt0, lg_eq0, i_ne0', l_ne0', iI_lt, iI_le, iI_eq, lI_lt, lI_le, lI_eq, zb_0, zb_fit, zb_fit0, zb_fit1, i_one_zero, i_w_in, z_tb0, z_tb1, z_tb2, z_tb3, z_tb4, z_tb5, z_tb6, z_tb7, z_tb8, z_tbl, z_tu0, z_tu1, z_tu2, z_i_62, z_i_63, z_i_86, z_i_88, z_l_Y, z_ui_62, z_ui_63, z_ui_86, z_ui_88, z_ul_Y, z_sz_Y, z_sw_Y, iI_nat, z_ix_t, z_at, Int.add_zero, Int.sub_zero, Int.zero_add, Int.mul_zero, ne_eq, Bool.false_eq_true, Bool.true_eq_false, reduceCtorEq, eq_self, and_true, true_and, and_false, false_and, and_self, not_true_eq_false, not_false_eq_true, decide_true, decide_false, ↓reduceIte, Int.reduceEq, Int.reduceNe, Int.reduceLT, Int.reduceLE, Int.reduceAdd, Int.reduceSub, Int.reduceMul, Int.reduceNeg, Nat.reduceAdd, Nat.reduceEqDiff, Nat.reduceBEq, ↓z_x_eq, z_g_t, z_bI_s, z_bL_s, z_bR_s, z_bV_s, Int.cast_ofNat_Int, beq_self_eq_true, Bool.and_true, Bool.true_and, Bool.and_self, Bool.or_true, Bool.true_or, Bool.false_and, Bool.and_false, Bool.false_or, Bool.or_false, Bool.not_false, Bool.not_true, if_true, if_false, ite_true, ite_false, z_up_eq, z_up_app, z_ro_eq, c0, pi1, pi2, d1, d2, d3, zb_t, e, d4]
              exact ok_q
          · simp -implicitDefEqProofs (disch := first | assumption | omega | rfl | (simp only [z_up_eq, z_up_app, ↓reduceIte, Nat.reduceEqDiff]; omega)) only [z_lit0, z_lit1, z_lit2, z_litl, iI_add, iI_sub, iI_mul, iI_neg, iI_and, iI_or, iI_xor, iI_shl, iI_shr, iI_ushr, iI_div, iI_b, iI_c, iI_i2l, lI_l2i, lI_add, lI_sub, lI_mul, lI_neg, lI_div, lI_or, lI_and, lI_shl, lI_shr, nI_iI, lg_lt0, lg_gt0, lg_eq0, i_ne0', l_ne0', iI_lt, iI_le, iI_eq, lI_lt, lI_le, lI_eq, zb_0, zb_fit, zb_fit0, zb_fit1, i_one_zero, i_w_in, z_tb0, z_tb1, z_tb2, z_tb3, z_tb4, z_tb5, z_tb6, z_tb7, z_tb8, z_tbl, z_tu0, z_tu1, z_tu2, z_i_62, z_i_63, z_i_86, z_i_88, z_l_Y, z_ui_62, z_ui_63, z_ui_86, z_ui_88, z_ul_Y, z_sz_Y, z_sw_Y, iI_nat, z_ix_t, z_at, Int.add_zero, Int.sub_zero, Int.zero_add, Int.mul_zero, ne_eq, Bool.false_eq_true, Bool.true_eq_false, reduceCtorEq, eq_self, and_true, true_and, and_false, false_and, and_self, not_true_eq_false, not_false_eq_true, decide_true, decide_false, ↓reduceIte, Int.reduceEq, Int.reduceNe, Int.reduceLT, Int.reduceLE, Int.reduceAdd, Int.reduceSub, Int.reduceMul, Int.reduceNeg, Nat.reduceAdd, Nat.reduceEqDiff, Nat.reduceBEq, ↓z_x_eq, z_g_t, z_bI_s, z_bL_s, z_bR_s, z_bV_s, Int.cast_ofNat_Int, beq_self_eq_true, Bool.and_true, Bool.true_and, Bool.and_self, Bool.or_true, Bool.true_or, Bool.false_and, Bool.and_false, Bool.false_or, Bool.or_false, Bool.not_false, Bool.not_true, if_true, if_false, ite_true, ite_false, z_up_eq, z_up_app, z_ro_eq, c0, pi1, pi2, d1, d2, zb_t, zb_f]
            exact ok_q
        · simp -implicitDefEqProofs (disch := first | assumption | omega | rfl | (simp only [z_up_eq, z_up_app, ↓reduceIte, Nat.reduceEqDiff]; omega)) only [z_lit0, z_lit1, z_lit2, z_litl, iI_add, iI_sub, iI_mul, iI_neg, iI_and, iI_or, iI_xor, iI_shl, iI_shr, iI_ushr, iI_div, iI_b, iI_c, iI_i2l, lI_l2i, lI_add, lI_sub, lI_mul, lI_neg, lI_div, lI_or, lI_and, lI_shl, lI_shr, nI_iI, lg_lt0, lg_gt0, lg_eq0, i_ne0', l_ne0', iI_lt, iI_le, iI_eq, lI_lt, lI_le, lI_eq, zb_0, zb_fit, zb_fit0, zb_fit1, i_one_zero, i_w_in, z_tb0, z_tb1, z_tb2, z_tb3, z_tb4, z_tb5, z_tb6, z_tb7, z_tb8, z_tbl, z_tu0, z_tu1, z_tu2, z_i_62, z_i_63, z_i_86, z_i_88, z_l_Y, z_ui_62, z_ui_63, z_ui_86, z_ui_88, z_ul_Y, z_sz_Y, z_sw_Y, iI_nat, z_ix_t, z_at, Int.add_zero, Int.sub_zero, Int.zero_add, Int.mul_zero, ne_eq, Bool.false_eq_true, Bool.true_eq_false, reduceCtorEq, eq_self, and_true, true_and, and_false, false_and, and_self, not_true_eq_false, not_false_eq_true, decide_true, decide_false, ↓reduceIte, Int.reduceEq, Int.reduceNe, Int.reduceLT, Int.reduceLE, Int.reduceAdd, Int.reduceSub, Int.reduceMul, Int.reduceNeg, Nat.reduceAdd, Nat.reduceEqDiff, Nat.reduceBEq, ↓z_x_eq, z_g_t, z_bI_s, z_bL_s, z_bR_s, z_bV_s, Int.cast_ofNat_Int, beq_self_eq_true, Bool.and_true, Bool.true_and, Bool.and_self, Bool.or_true, Bool.true_or, Bool.false_and, Bool.and_false, Bool.false_or, Bool.or_false, Bool.not_false, Bool.not_true, if_true, if_false, ite_true, ite_false, z_up_eq, z_up_app, z_ro_eq, c0, pi1, d1, zb_f]
          exact ok_q

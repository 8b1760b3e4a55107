/-! THE PURE PART, 24: verdicts; the air of blocks -/
theorem mo_p {A : Int → Int} (h : m_ok A) : ∀ p, 0 ≤ p → p < A 1 → (1 ≤ A (32 + 5 * p) ∧ A (32 + 5 * p) ≤ 9) ∧ (1 ≤ A (32 + 5 * p + 1) ∧ A (32 + 5 * p + 1) ≤ 9) ∧ (0 ≤ A (32 + 5 * p + 2) ∧ A (32 + 5 * p + 2) ≤ 17) ∧ (-1 ≤ A (32 + 5 * p + 3) ∧ A (32 + 5 * p + 3) < A 0) ∧ (0 ≤ A (32 + 5 * p + 4) ∧ A (32 + 5 * p + 4) ≤ 2) := h.2.2.2.2.2.2.2.2.2.2.2.2.2.1
theorem mo_s {A : Int → Int} (h : m_ok A) : ∀ k, 0 ≤ k → k < A 0 → (0 ≤ A (12 + 2 * k) ∧ A (12 + 2 * k) ≤ 3) ∧ (0 ≤ A (12 + 2 * k + 1) ∧ A (12 + 2 * k + 1) ≤ 9) := h.2.2.2.2.2.2.2.2.2.2.2.2.1
theorem mo_n {A : Int → Int} (h : m_ok A) : ∀ n, 0 ≤ n → n < A 2 → (0 ≤ A (82 + 2 * n) ∧ A (82 + 2 * n) ≤ 9999) ∧ (0 ≤ A (82 + 2 * n + 1) ∧ A (82 + 2 * n + 1) ≤ 99) := h.2.2.2.2.2.2.2.2.2.2.2.2.2.2.1
/-- verdicts of the note that is asked of -/
def v_ok (G : ZG) (n : Int) (V : Int → Int) : Prop := G 61 6 = n ∧ (0 ≤ n ∧ n < G 81 2) ∧ (1 ≤ G 61 5 ∧ G 61 5 ≤ 100000) ∧ ∀ i, 0 ≤ i → i < 181 → (0 ≤ V i ∧ V i ≤ 2 * G 61 5 + 1) ∧ (V i / 2 = G 61 5 → V i % 2 = zb (m_holds (G 81) (G 83) (G 81 6) n (i - 90) (G 81 (82 + 2 * n))))
theorem p_would (d : Nat) (T : ZT) (G : ZG) (s : ZG × ZG) {n ai : Int} {V : Int → Int} (hQ : c_q T G) (hv : v_ok G n V) (ha : -1000 ≤ ai ∧ ai ≤ 1000) : z_ok (z_call (d + 4) 240 [vr 61, vi (iI ai)] (z_Y T (z_up G 64 V) s)) (fun y τ => y = vi (iI (zb (m_holds (G 81) (G 83) (G 81 6) n ai (G 81 (82 + 2 * n))))) ∧ ∃ V' s', τ = z_Y T (z_up G 64 V') s' ∧ v_ok G n V') := by
  have hv' := hv
  obtain ⟨v1, v2, v3, v4⟩ := hv
  have mn := mo_n hQ.1.1 n v2.1 v2.2
  have m2 := hQ.1.1.2.2.1
  have q2 := (cw_n hQ.1 n v2.1 v2.2).1
  have hQ1 := cq_up (r := 64) (w := V) hQ (by omega)
  have pr := fun s => p_ruling d T (z_up G 64 V) s hQ1.1
  have ph := fun s => p_choldsBy d T (z_up G 64 V) s (t := G 81 6) (n := n) (ai := ai) (b := G 81 (82 + 2 * n)) hQ1 (t_rul_ref hQ1) v2 ha (by omega)
  have ph' : ∀ s, z_ok (z_call (d + 3) 201 [vr 61, vr (t_rul T (z_up G 64 V)), vi (iI n), vi (iI (G 81 (82 + 2 * n))), vi (iI ai)] (z_Y T (z_up G 64 V) s)) (z_q T (z_up G 64 V) (vi (iI (zb (m_holds (G 81) (G 83) (G 81 6) n ai (G 81 (82 + 2 * n))))))) := ph
  rw [e_Br_wouldHold]
  by_cases c : 0 ≤ ai + 90 ∧ ai + 90 < 181
  · have c1 : (ai + 90 < 0) = False := eq_false (by omega)
    have c2 : (ai + 90 < 181) = True := eq_true c.2
    have w := v4 (ai + 90) c.1 c.2
    have vi1 : i_shr (V (ai + 90)) 1 = V (ai + 90) / 2 := i_shr1 ⟨by omega, by omega⟩
    have vi2 : i_and (V (ai + 90)) 1 = V (ai + 90) % 2 := i_and1m ⟨by omega, by omega⟩
    by_cases c3 : V (ai + 90) / 2 = G 61 5
    · have w2 := w.2 c3
      rw [show ai + 90 - 90 = ai by omega] at w2
      have c3' : (V (ai + 90) / 2 = G 61 5) = True := eq_true c3
      have vi3 : i_and (V (ai + 90)) 1 = zb (m_holds (G 81) (G 83) (G 81 6) n ai (G 81 (82 + 2 * n))) := by rw [vi2, w2]
      simp -implicitDefEqProofs (disch := first | assumption | omega | rfl | (simp only [z_up_eq, z_up_app, ↓reduceIte, Nat.reduceEqDiff]; omega)) only [z_lit0, z_lit1, z_lit2, z_litl, iI_add, iI_sub, iI_mul, iI_neg, iI_and, iI_or, iI_xor, iI_shl, iI_shr, iI_ushr, iI_div, iI_b, iI_c, iI_i2l, lI_l2i, lI_add, lI_sub, lI_mul, lI_neg, lI_div, lI_or, lI_and, lI_shl, lI_shr, nI_iI, lg_lt0, lg_gt0, lg_eq0, i_ne0', l_ne0', iI_lt, iI_le, iI_eq, lI_lt, lI_le, lI_eq, zb_0, zb_fit, zb_fit0, zb_fit1, i_one_zero, i_w_in, z_tb0, z_tb1, z_tb2, z_tb3, z_tb4, z_tb5, z_tb6, z_tb7, z_tb8, z_tbl, z_tu0, z_tu1, z_tu2, z_i_62, z_i_63, z_i_86, z_i_88, z_l_Y, z_ui_62, z_ui_63, z_ui_86, z_ui_88, z_ul_Y, z_sz_Y, z_sw_Y, iI_nat, z_ix_t, z_at, Int.add_zero, Int.sub_zero, Int.zero_add, Int.mul_zero, ne_eq, Bool.false_eq_true, Bool.true_eq_false, reduceCtorEq, eq_self, and_true, true_and, and_false, false_and, and_self, not_true_eq_false, not_false_eq_true, decide_true, decide_false, ↓reduceIte, Int.reduceEq, Int.reduceNe, Int.reduceLT, Int.reduceLE, Int.reduceAdd, Int.reduceSub, Int.reduceMul, Int.reduceNeg, Nat.reduceAdd, Nat.reduceEqDiff, Nat.reduceBEq, ↓z_x_eq, z_g_t, z_bI_s, z_bL_s, z_bR_s, z_bV_s, Int.cast_ofNat_Int, beq_self_eq_true, Bool.and_true, Bool.true_and, Bool.and_self, Bool.or_true, Bool.true_or, Bool.false_and, Bool.and_false, Bool.false_or, Bool.or_false, Bool.not_false, Bool.not_true, if_true, if_false, ite_true, ite_false, z_up_eq, z_up_app, z_ro_eq, c1, c2, e_Br_wouldHold_23, vi1, c3', vi3]
      cases hm : m_holds (G 81) (G 83) (G 81 6) n ai (G 81 (82 + 2 * n))
      · exact ok_ret ⟨rfl, V, s, rfl, hv'⟩
      · exact ok_ret ⟨rfl, V, s, rfl, hv'⟩
    · simp -implicitDefEqProofs (disch := first | assumption | omega | rfl | (simp only [z_up_eq, z_up_app, ↓reduceIte, Nat.reduceEqDiff]; omega)) only [z_lit0, z_lit1, z_lit2, z_litl, iI_add, iI_sub, iI_mul, iI_neg, iI_and, iI_or, iI_xor, iI_shl, iI_shr, iI_ushr, iI_div, iI_b, iI_c, iI_i2l, lI_l2i, lI_add, lI_sub, lI_mul, lI_neg, lI_div, lI_or, lI_and, lI_shl, lI_shr, nI_iI, lg_lt0, lg_gt0, lg_eq0, i_ne0', l_ne0', iI_lt, iI_le, iI_eq, lI_lt, lI_le, lI_eq, zb_0, zb_fit, zb_fit0, zb_fit1, i_one_zero, i_w_in, z_tb0, z_tb1, z_tb2, z_tb3, z_tb4, z_tb5, z_tb6, z_tb7, z_tb8, z_tbl, z_tu0, z_tu1, z_tu2, z_i_62, z_i_63, z_i_86, z_i_88, z_l_Y, z_ui_62, z_ui_63, z_ui_86, z_ui_88, z_ul_Y, z_sz_Y, z_sw_Y, iI_nat, z_ix_t, z_at, Int.add_zero, Int.sub_zero, Int.zero_add, Int.mul_zero, ne_eq, Bool.false_eq_true, Bool.true_eq_false, reduceCtorEq, eq_self, and_true, true_and, and_false, false_and, and_self, not_true_eq_false, not_false_eq_true, decide_true, decide_false, ↓reduceIte, Int.reduceEq, Int.reduceNe, Int.reduceLT, Int.reduceLE, Int.reduceAdd, Int.reduceSub, Int.reduceMul, Int.reduceNeg, Nat.reduceAdd, Nat.reduceEqDiff, Nat.reduceBEq, ↓z_x_eq, z_g_t, z_bI_s, z_bL_s, z_bR_s, z_bV_s, Int.cast_ofNat_Int, beq_self_eq_true, Bool.and_true, Bool.true_and, Bool.and_self, Bool.or_true, Bool.true_or, Bool.false_and, Bool.and_false, Bool.false_or, Bool.or_false, Bool.not_false, Bool.not_true, if_true, if_false, ite_true, ite_false, z_up_eq, z_up_app, z_ro_eq, c1, c2, e_Br_wouldHold_23, vi1, c3, pr, v1, q2]
      refine ok_cI (ph' s) (fun s1 => ?_)
      have key : ∀ b : Bool, b = m_holds (G 81) (G 83) (G 81 6) n ai (G 81 (82 + 2 * n)) → v_ok G n (z_ro V (ai + 90) (2 * G 61 5 + zb b)) := by
        intro b hb
        refine ⟨v1, v2, v3, fun i a e => ?_⟩
        have bb := zb_in b
        unfold z_ro
        by_cases e2 : i = ai + 90
        · rw [if_pos e2]
          refine ⟨by omega, fun _ => ?_⟩
          rw [e2, show ai + 90 - 90 = ai by omega, ← hb]
          omega
        · rw [if_neg e2]; exact v4 i a e
      cases hm : m_holds (G 81) (G 83) (G 81 6) n ai (G 81 (82 + 2 * n))
      · have k := key false hm.symm
        rw [zb_f, Int.add_zero] at k
        simp -implicitDefEqProofs (disch := first | assumption | omega | rfl | (simp only [z_up_eq, z_up_app, ↓reduceIte, Nat.reduceEqDiff]; omega)) only [z_lit0, z_lit1, z_lit2, z_litl, iI_add, iI_sub, iI_mul, iI_neg, iI_and, iI_or, iI_xor, iI_shl, iI_shr, iI_ushr, iI_div, iI_b, iI_c, iI_i2l, lI_l2i, lI_add, lI_sub, lI_mul, lI_neg, lI_div, lI_or, lI_and, lI_shl, lI_shr, nI_iI, lg_lt0, lg_gt0, lg_eq0, i_ne0', l_ne0', iI_lt, iI_le, iI_eq, lI_lt, lI_le, lI_eq, zb_0, zb_fit, zb_fit0, zb_fit1, i_one_zero, i_w_in, z_tb0, z_tb1, z_tb2, z_tb3, z_tb4, z_tb5, z_tb6, z_tb7, z_tb8, z_tbl, z_tu0, z_tu1, z_tu2, z_i_62, z_i_63, z_i_86, z_i_88, z_l_Y, z_ui_62, z_ui_63, z_ui_86, z_ui_88, z_ul_Y, z_sz_Y, z_sw_Y, iI_nat, z_ix_t, z_at, Int.add_zero, Int.sub_zero, Int.zero_add, Int.mul_zero, ne_eq, Bool.false_eq_true, Bool.true_eq_false, reduceCtorEq, eq_self, and_true, true_and, and_false, false_and, and_self, not_true_eq_false, not_false_eq_true, decide_true, decide_false, ↓reduceIte, Int.reduceEq, Int.reduceNe, Int.reduceLT, Int.reduceLE, Int.reduceAdd, Int.reduceSub, Int.reduceMul, Int.reduceNeg, Nat.reduceAdd, Nat.reduceEqDiff, Nat.reduceBEq, ↓z_x_eq, z_g_t, z_bI_s, z_bL_s, z_bR_s, z_bV_s, Int.cast_ofNat_Int, beq_self_eq_true, Bool.and_true, Bool.true_and, Bool.and_self, Bool.or_true, Bool.true_or, Bool.false_and, Bool.and_false, Bool.false_or, Bool.or_false, Bool.not_false, Bool.not_true, if_true, if_false, ite_true, ite_false, z_up_eq, z_up_app, z_ro_eq, zb_f, z_up_up]
        exact ok_ret ⟨rfl, _, s1, rfl, k⟩
      · have k := key true hm.symm
        rw [zb_t] at k
        simp -implicitDefEqProofs (disch := first | assumption | omega | rfl | (simp only [z_up_eq, z_up_app, ↓reduceIte, Nat.reduceEqDiff]; omega)) only [z_lit0, z_lit1, z_lit2, z_litl, iI_add, iI_sub, iI_mul, iI_neg, iI_and, iI_or, iI_xor, iI_shl, iI_shr, iI_ushr, iI_div, iI_b, iI_c, iI_i2l, lI_l2i, lI_add, lI_sub, lI_mul, lI_neg, lI_div, lI_or, lI_and, lI_shl, lI_shr, nI_iI, lg_lt0, lg_gt0, lg_eq0, i_ne0', l_ne0', iI_lt, iI_le, iI_eq, lI_lt, lI_le, lI_eq, zb_0, zb_fit, zb_fit0, zb_fit1, i_one_zero, i_w_in, z_tb0, z_tb1, z_tb2, z_tb3, z_tb4, z_tb5, z_tb6, z_tb7, z_tb8, z_tbl, z_tu0, z_tu1, z_tu2, z_i_62, z_i_63, z_i_86, z_i_88, z_l_Y, z_ui_62, z_ui_63, z_ui_86, z_ui_88, z_ul_Y, z_sz_Y, z_sw_Y, iI_nat, z_ix_t, z_at, Int.add_zero, Int.sub_zero, Int.zero_add, Int.mul_zero, ne_eq, Bool.false_eq_true, Bool.true_eq_false, reduceCtorEq, eq_self, and_true, true_and, and_false, false_and, and_self, not_true_eq_false, not_false_eq_true, decide_true, decide_false, ↓reduceIte, Int.reduceEq, Int.reduceNe, Int.reduceLT, Int.reduceLE, Int.reduceAdd, Int.reduceSub, Int.reduceMul, Int.reduceNeg, Nat.reduceAdd, Nat.reduceEqDiff, Nat.reduceBEq, ↓z_x_eq, z_g_t, z_bI_s, z_bL_s, z_bR_s, z_bV_s, Int.cast_ofNat_Int, beq_self_eq_true, Bool.and_true, Bool.true_and, Bool.and_self, Bool.or_true, Bool.true_or, Bool.false_and, Bool.and_false, Bool.false_or, Bool.or_false, Bool.not_false, Bool.not_true, if_true, if_false, ite_true, ite_false, z_up_eq, z_up_app, z_ro_eq, zb_t, z_up_up]
        exact ok_ret ⟨rfl, _, s1, rfl, k⟩
  · have nx : ∀ s, z_ok (z_w d_Br_wouldHold (z_call (d + 3)) 23 [some (vr 61), some (vi (iI ai)), some (vi (iI (ai + 90))), none, none] [vi (iI 0)] (z_Y T (z_up G 64 V) s)) (fun y τ => y = vi (iI (zb (m_holds (G 81) (G 83) (G 81 6) n ai (G 81 (82 + 2 * n))))) ∧ ∃ V' s', τ = z_Y T (z_up G 64 V') s' ∧ v_ok G n V') := by
      intro s
      rw [e_Br_wouldHold_23]
      simp -implicitDefEqProofs (disch := first | assumption | omega | rfl | (simp only [z_up_eq, z_up_app, ↓reduceIte, Nat.reduceEqDiff]; omega)) only [z_lit0, z_lit1, z_lit2, z_litl, iI_add, iI_sub, iI_mul, iI_neg, iI_and, iI_or, iI_xor, iI_shl, iI_shr, iI_ushr, iI_div, iI_b, iI_c, iI_i2l, lI_l2i, lI_add, lI_sub, lI_mul, lI_neg, lI_div, lI_or, lI_and, lI_shl, lI_shr, nI_iI, lg_lt0, lg_gt0, lg_eq0, i_ne0', l_ne0', iI_lt, iI_le, iI_eq, lI_lt, lI_le, lI_eq, zb_0, zb_fit, zb_fit0, zb_fit1, i_one_zero, i_w_in, z_tb0, z_tb1, z_tb2, z_tb3, z_tb4, z_tb5, z_tb6, z_tb7, z_tb8, z_tbl, z_tu0, z_tu1, z_tu2, z_i_62, z_i_63, z_i_86, z_i_88, z_l_Y, z_ui_62, z_ui_63, z_ui_86, z_ui_88, z_ul_Y, z_sz_Y, z_sw_Y, iI_nat, z_ix_t, z_at, Int.add_zero, Int.sub_zero, Int.zero_add, Int.mul_zero, ne_eq, Bool.false_eq_true, Bool.true_eq_false, reduceCtorEq, eq_self, and_true, true_and, and_false, false_and, and_self, not_true_eq_false, not_false_eq_true, decide_true, decide_false, ↓reduceIte, Int.reduceEq, Int.reduceNe, Int.reduceLT, Int.reduceLE, Int.reduceAdd, Int.reduceSub, Int.reduceMul, Int.reduceNeg, Nat.reduceAdd, Nat.reduceEqDiff, Nat.reduceBEq, ↓z_x_eq, z_g_t, z_bI_s, z_bL_s, z_bR_s, z_bV_s, Int.cast_ofNat_Int, beq_self_eq_true, Bool.and_true, Bool.true_and, Bool.and_self, Bool.or_true, Bool.true_or, Bool.false_and, Bool.and_false, Bool.false_or, Bool.or_false, Bool.not_false, Bool.not_true, if_true, if_false, ite_true, ite_false, z_up_eq, z_up_app, z_ro_eq, pr, v1, q2]
      refine ok_cI (ph' s) (fun s1 => ?_)
      simp -implicitDefEqProofs (disch := first | assumption | omega | rfl | (simp only [z_up_eq, z_up_app, ↓reduceIte, Nat.reduceEqDiff]; omega)) only [z_lit0, z_lit1, z_lit2, z_litl, iI_add, iI_sub, iI_mul, iI_neg, iI_and, iI_or, iI_xor, iI_shl, iI_shr, iI_ushr, iI_div, iI_b, iI_c, iI_i2l, lI_l2i, lI_add, lI_sub, lI_mul, lI_neg, lI_div, lI_or, lI_and, lI_shl, lI_shr, nI_iI, lg_lt0, lg_gt0, lg_eq0, i_ne0', l_ne0', iI_lt, iI_le, iI_eq, lI_lt, lI_le, lI_eq, zb_0, zb_fit, zb_fit0, zb_fit1, i_one_zero, i_w_in, z_tb0, z_tb1, z_tb2, z_tb3, z_tb4, z_tb5, z_tb6, z_tb7, z_tb8, z_tbl, z_tu0, z_tu1, z_tu2, z_i_62, z_i_63, z_i_86, z_i_88, z_l_Y, z_ui_62, z_ui_63, z_ui_86, z_ui_88, z_ul_Y, z_sz_Y, z_sw_Y, iI_nat, z_ix_t, z_at, Int.add_zero, Int.sub_zero, Int.zero_add, Int.mul_zero, ne_eq, Bool.false_eq_true, Bool.true_eq_false, reduceCtorEq, eq_self, and_true, true_and, and_false, false_and, and_self, not_true_eq_false, not_false_eq_true, decide_true, decide_false, ↓reduceIte, Int.reduceEq, Int.reduceNe, Int.reduceLT, Int.reduceLE, Int.reduceAdd, Int.reduceSub, Int.reduceMul, Int.reduceNeg, Nat.reduceAdd, Nat.reduceEqDiff, Nat.reduceBEq, ↓z_x_eq, z_g_t, z_bI_s, z_bL_s, z_bR_s, z_bV_s, Int.cast_ofNat_Int, beq_self_eq_true, Bool.and_true, Bool.true_and, Bool.and_self, Bool.or_true, Bool.true_or, Bool.false_and, Bool.and_false, Bool.false_or, Bool.or_false, Bool.not_false, Bool.not_true, if_true, if_false, ite_true, ite_false, z_up_eq, z_up_app, z_ro_eq]
      exact ok_ret ⟨rfl, V, s1, rfl, hv'⟩
    by_cases c1 : ai + 90 < 0
    · simp -implicitDefEqProofs (disch := first | assumption | omega | rfl | (simp only [z_up_eq, z_up_app, ↓reduceIte, Nat.reduceEqDiff]; omega)) only [z_lit0, z_lit1, z_lit2, z_litl, iI_add, iI_sub, iI_mul, iI_neg, iI_and, iI_or, iI_xor, iI_shl, iI_shr, iI_ushr, iI_div, iI_b, iI_c, iI_i2l, lI_l2i, lI_add, lI_sub, lI_mul, lI_neg, lI_div, lI_or, lI_and, lI_shl, lI_shr, nI_iI, lg_lt0, lg_gt0, lg_eq0, i_ne0', l_ne0', iI_lt, iI_le, iI_eq, lI_lt, lI_le, lI_eq, zb_0, zb_fit, zb_fit0, zb_fit1, i_one_zero, i_w_in, z_tb0, z_tb1, z_tb2, z_tb3, z_tb4, z_tb5, z_tb6, z_tb7, z_tb8, z_tbl, z_tu0, z_tu1, z_tu2, z_i_62, z_i_63, z_i_86, z_i_88, z_l_Y, z_ui_62, z_ui_63, z_ui_86, z_ui_88, z_ul_Y, z_sz_Y, z_sw_Y, iI_nat, z_ix_t, z_at, Int.add_zero, Int.sub_zero, Int.zero_add, Int.mul_zero, ne_eq, Bool.false_eq_true, Bool.true_eq_false, reduceCtorEq, eq_self, and_true, true_and, and_false, false_and, and_self, not_true_eq_false, not_false_eq_true, decide_true, decide_false, ↓reduceIte, Int.reduceEq, Int.reduceNe, Int.reduceLT, Int.reduceLE, Int.reduceAdd, Int.reduceSub, Int.reduceMul, Int.reduceNeg, Nat.reduceAdd, Nat.reduceEqDiff, Nat.reduceBEq, ↓z_x_eq, z_g_t, z_bI_s, z_bL_s, z_bR_s, z_bV_s, Int.cast_ofNat_Int, beq_self_eq_true, Bool.and_true, Bool.true_and, Bool.and_self, Bool.or_true, Bool.true_or, Bool.false_and, Bool.and_false, Bool.false_or, Bool.or_false, Bool.not_false, Bool.not_true, if_true, if_false, ite_true, ite_false, z_up_eq, z_up_app, z_ro_eq, c1]
      exact nx s
    · have c2 : (ai + 90 < 181) = False := eq_false (by omega)
      simp -implicitDefEqProofs (disch := first | assumption | omega | rfl | (simp only [z_up_eq, z_up_app, ↓reduceIte, Nat.reduceEqDiff]; omega)) only [z_lit0, z_lit1, z_lit2, z_litl, iI_add, iI_sub, iI_mul, iI_neg, iI_and, iI_or, iI_xor, iI_shl, iI_shr, iI_ushr, iI_div, iI_b, iI_c, iI_i2l, lI_l2i, lI_add, lI_sub, lI_mul, lI_neg, lI_div, lI_or, lI_and, lI_shl, lI_shr, nI_iI, lg_lt0, lg_gt0, lg_eq0, i_ne0', l_ne0', iI_lt, iI_le, iI_eq, lI_lt, lI_le, lI_eq, zb_0, zb_fit, zb_fit0, zb_fit1, i_one_zero, i_w_in, z_tb0, z_tb1, z_tb2, z_tb3, z_tb4, z_tb5, z_tb6, z_tb7, z_tb8, z_tbl, z_tu0, z_tu1, z_tu2, z_i_62, z_i_63, z_i_86, z_i_88, z_l_Y, z_ui_62, z_ui_63, z_ui_86, z_ui_88, z_ul_Y, z_sz_Y, z_sw_Y, iI_nat, z_ix_t, z_at, Int.add_zero, Int.sub_zero, Int.zero_add, Int.mul_zero, ne_eq, Bool.false_eq_true, Bool.true_eq_false, reduceCtorEq, eq_self, and_true, true_and, and_false, false_and, and_self, not_true_eq_false, not_false_eq_true, decide_true, decide_false, ↓reduceIte, Int.reduceEq, Int.reduceNe, Int.reduceLT, Int.reduceLE, Int.reduceAdd, Int.reduceSub, Int.reduceMul, Int.reduceNeg, Nat.reduceAdd, Nat.reduceEqDiff, Nat.reduceBEq, ↓z_x_eq, z_g_t, z_bI_s, z_bL_s, z_bR_s, z_bV_s, Int.cast_ofNat_Int, beq_self_eq_true, Bool.and_true, Bool.true_and, Bool.and_self, Bool.or_true, Bool.true_or, Bool.false_and, Bool.and_false, Bool.false_or, Bool.or_false, Bool.not_false, Bool.not_true, if_true, if_false, ite_true, ite_false, z_up_eq, z_up_app, z_ro_eq, c1, c2]
      exact nx s
/-- a new asking -/
theorem v_new {G : ZG} {c n : Int} (h : z_ask G c) (hc : c ≤ 601) (hn : 0 ≤ n ∧ n < G 81 2) : v_ok (z_up G 61 (z_ro (z_ro (G 61) 5 (G 61 5 + 1)) 6 n)) n (G 64) := by
  obtain ⟨a1, a2, a3⟩ := h
  unfold v_ok
  rw [z_up_eq, z_ro_eq, z_ro_ne _ _ (show (5 : Int) ≠ 6 by omega), z_ro_eq, z_up_ne G _ (show 81 ≠ 61 by omega), z_up_ne G _ (show 83 ≠ 61 by omega)]
  refine ⟨rfl, hn, by omega, fun i a b => ?_⟩
  have := a3 i a b
  exact ⟨by omega, fun e => by omega⟩
theorem p_askOf (d : Nat) (T : ZT) (G : ZG) (s : ZG × ZG) {n : Int} : z_call (d + 1) 238 [vr 61, vi (iI n)] (z_Y T G s) = some (vi (iI 0), z_Y T (z_up G 61 (z_ro (z_ro (G 61) 5 (G 61 5 + 1)) 6 n)) s) := by
  rw [e_Br_askOf]
  simp -implicitDefEqProofs (disch := first | assumption | omega | rfl | (simp only [z_up_eq, z_up_app, ↓reduceIte, Nat.reduceEqDiff]; omega)) only [z_lit0, z_lit1, z_lit2, z_litl, iI_add, iI_sub, iI_mul, iI_neg, iI_and, iI_or, iI_xor, iI_shl, iI_shr, iI_ushr, iI_div, iI_b, iI_c, iI_i2l, lI_l2i, lI_add, lI_sub, lI_mul, lI_neg, lI_div, lI_or, lI_and, lI_shl, lI_shr, nI_iI, lg_lt0, lg_gt0, lg_eq0, i_ne0', l_ne0', iI_lt, iI_le, iI_eq, lI_lt, lI_le, lI_eq, zb_0, zb_fit, zb_fit0, zb_fit1, i_one_zero, i_w_in, z_tb0, z_tb1, z_tb2, z_tb3, z_tb4, z_tb5, z_tb6, z_tb7, z_tb8, z_tbl, z_tu0, z_tu1, z_tu2, z_i_62, z_i_63, z_i_86, z_i_88, z_l_Y, z_ui_62, z_ui_63, z_ui_86, z_ui_88, z_ul_Y, z_sz_Y, z_sw_Y, iI_nat, z_ix_t, z_at, Int.add_zero, Int.sub_zero, Int.zero_add, Int.mul_zero, ne_eq, Bool.false_eq_true, Bool.true_eq_false, reduceCtorEq, eq_self, and_true, true_and, and_false, false_and, and_self, not_true_eq_false, not_false_eq_true, decide_true, decide_false, ↓reduceIte, Int.reduceEq, Int.reduceNe, Int.reduceLT, Int.reduceLE, Int.reduceAdd, Int.reduceSub, Int.reduceMul, Int.reduceNeg, Nat.reduceAdd, Nat.reduceEqDiff, Nat.reduceBEq, ↓z_x_eq, z_g_t, z_bI_s, z_bL_s, z_bR_s, z_bV_s, Int.cast_ofNat_Int, beq_self_eq_true, Bool.and_true, Bool.true_and, Bool.and_self, Bool.or_true, Bool.true_or, Bool.false_and, Bool.and_false, Bool.false_or, Bool.or_false, Bool.not_false, Bool.not_true, if_true, if_false, ite_true, ite_false, z_up_eq, z_up_app, z_ro_eq, z_up_up]
/-- breath knows of ushers by its own block alone -/
theorem t_breath_us {A X : Int → Int} {p b st hw us us' sa : Int} (h : st ≠ -1 → i_has us (A (12 + 2 * st)) = i_has us' (A (12 + 2 * st))) : t_breath A X p b st hw us sa = t_breath A X p b st hw us' sa := by
  by_cases c : st = -1
  · unfold t_breath; rw [if_pos (Or.inl c), if_pos (Or.inl c)]
  · have e : t_time A p b st hw us sa = t_time A p b st hw us' sa := by unfold t_time; rw [h c]
    unfold t_breath t_names
    rw [e]
theorem i_has_m1 {k : Int} (hk : 0 ≤ k ∧ k < 4) : i_has (-1) k = true := by
  have h : ∀ k : Nat, k < 4 → i_has (-1) k = true := by decide +kernel
  have := h k.toNat (by omega)
  rw [show ((k.toNat : Nat) : Int) = k by omega] at this
  exact this
theorem z_sum_add {f g : Int → Int} : ∀ (n : Nat) (i : Int), z_sum n i f + z_sum n i g = z_sum n i (fun k => f k + g k)
  | 0, _ => rfl
  | n + 1, i => by
    show f i + z_sum n (i + 1) f + (g i + z_sum n (i + 1) g) = f i + g i + z_sum n (i + 1) (fun k => f k + g k)
    rw [← z_sum_add n (i + 1)]
    omega
/-- what one in a block breathes there, with an usher (t = 1) or without -/
def u_br (A X : Int → Int) (be bl t p : Int) : Int := if A (32 + 5 * p + 3) ≠ -1 ∧ A (12 + 2 * A (32 + 5 * p + 3)) = bl then t_breath A X p be (A (32 + 5 * p + 3)) (A (32 + 5 * p + 4)) (-t) (A (32 + 5 * p + 2)) else 0
/-- the air by a set of ushers, block by block -/
theorem u_air {A X : Int → Int} {be us : Int} (hM : m_ok A) (hu : 0 ≤ us ∧ us ≤ 15) : z_sum (A 1).toNat 0 (u_br A X be 0 (zb (i_has us 0))) + z_sum (A 1).toNat 0 (u_br A X be 1 (zb (i_has us 1))) + z_sum (A 1).toNat 0 (u_br A X be 2 (zb (i_has us 2))) + z_sum (A 1).toNat 0 (u_br A X be 3 (zb (i_has us 3))) = m_air0 (z_ro A 8 us) X be := by
  have m1 := hM.2.1
  rw [ag_air hM (ag_ush hM hu) (ag_u (ag_id A)), z_sum_add, z_sum_add, z_sum_add]
  refine z_sum_eq _ _ (fun p a b => ?_)
  have mp := mo_p hM p a (by omega)
  rw [z_ro_ne _ _ (show 32 + 5 * p + 3 ≠ 8 by omega), z_ro_ne _ _ (show 32 + 5 * p + 4 ≠ 8 by omega), z_ro_ne _ _ (show 32 + 5 * p + 2 ≠ 8 by omega), z_ro_eq]
  unfold u_br
  by_cases c : A (32 + 5 * p + 3) = -1
  · have e : t_breath A X p be (A (32 + 5 * p + 3)) (A (32 + 5 * p + 4)) us (A (32 + 5 * p + 2)) = 0 := by unfold t_breath; rw [if_pos (Or.inl c)]
    rw [e, if_neg (fun q => q.1 c), if_neg (fun q => q.1 c), if_neg (fun q => q.1 c), if_neg (fun q => q.1 c)]; rfl
  · have ms := (mo_s hM (A (32 + 5 * p + 3)) (by omega) (by omega)).1
    have key : ∀ bl, A (12 + 2 * A (32 + 5 * p + 3)) = bl → t_breath A X p be (A (32 + 5 * p + 3)) (A (32 + 5 * p + 4)) (-zb (i_has us bl)) (A (32 + 5 * p + 2)) = t_breath A X p be (A (32 + 5 * p + 3)) (A (32 + 5 * p + 4)) us (A (32 + 5 * p + 2)) := by
      intro bl e
      refine t_breath_us (fun _ => ?_)
      rw [e]
      cases i_has us bl
      · exact i_has_0 ⟨by omega, by omega⟩
      · exact i_has_m1 ⟨by omega, by omega⟩
    rcases (show A (12 + 2 * A (32 + 5 * p + 3)) = 0 ∨ A (12 + 2 * A (32 + 5 * p + 3)) = 1 ∨ A (12 + 2 * A (32 + 5 * p + 3)) = 2 ∨ A (12 + 2 * A (32 + 5 * p + 3)) = 3 by omega) with e | e | e | e
    all_goals rw [← key _ e]
    all_goals simp [c, e]

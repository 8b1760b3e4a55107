/-! THE PURE PART, 91: the model behind one; a law -/
theorem j_bt_in (e : Bool) (k : Int) (P : List Int) : j_bt e k P = -1 ∨ (4 ≤ j_bt e k P ∧ j_bt e k P ≤ 22 ∧ j_bt e k P ≠ 20) := by
  have := j_cp_i k
  unfold j_bt
  repeat' split
  all_goals omega
theorem j_rk_1 {o : Int} (h : o < 40) (h0 : 0 ≤ o) : 1 ≤ j_rk o := by
  unfold j_rk
  repeat' split
  all_goals omega
theorem n_bt0 {e : Bool} {k : Int} {P : List Int} (h : 0 ≤ j_bt e k P) : k ≠ 0 := fun z => by
  rw [z] at h
  unfold j_bt at h
  rw [if_neg (by decide), if_neg (by decide), if_neg (by decide), if_neg (by decide), if_neg (by decide)] at h
  split at h
  · split at h
    · rw [if_neg (by decide), if_neg (by decide)] at h; omega
    · have : j_cp 0 = -1 := by decide
      omega
  · omega
section
variable {T : ZT} {s : ZG × ZG} {B X0 : Int → Int} {L t0 w0 q : Int} {e : Bool} {G0 : ZG} {N : Nat}
theorem p_behind {E : Nat} (hE : 9 ≤ E) (hB : y_tm G0 B L) (ht : 0 ≤ t0 ∧ t0 ≤ 2115) (hw : 0 ≤ w0) (hN : N ≤ 300) {P : List Int} {j : Nat} {C : List (Int × Int)} {G : ZG} (h : n_S B L t0 w0 q e G0 X0 P true j C G (s.2 80 11)) (hv : n_iv N w0 P j C) : (∃ S : US, j_be e (n_K B L) P j C = .inl S ∧ ∃ G' s', z_call E 97 [vr 80] (z_Y T G s) = some (vi (iI 1), z_Y T G' s') ∧ n_S B L t0 w0 q e G0 X0 S.1 S.2.1 S.2.2.1 S.2.2.2 G' (s'.2 80 11)) ∨ (z_call E 97 [vr 80] (z_Y T G s) = some (vi (iI 0), z_Y T G s) ∧ j_be e (n_K B L) P j C = if 0 ≤ j_op P ∨ (e = true ∧ j_cm P = false) then .inr (1, j, []) else .inr (0, j, (j_set 1 P C).2)) := by
  obtain ⟨d, rfl⟩ : ∃ d, E = d + 1 := ⟨E - 1, by omega⟩
  obtain ⟨v1, v2, v3, v4, v5⟩ := hv
  have hl := n_len160 v2 v3
  have rl := n_rl hB h
  obtain ⟨b0, t2, t00, t1, t43, t45, t42, t47, t37, t60, t62, t61, t35, t40, t41, t44, t59, t4, t5⟩ := n_tok rl
  have bt := p_between (T := T) (s := s) (E := d) (by omega) rl h.1.2.1.2.2.2 h.1.2.1.1 h.2.1 v1 (by omega)
  have op := p_open (T := T) (s := s) (E := d) (by omega) h.1.2.1.1 h.2.1 v1 (by omega)
  have bi := j_bt_in e (n_K B L j) P
  have oi := n_op_in v1
  unfold j_be
  by_cases c : 0 ≤ j_bt e (n_K B L j) P
  · left
    rw [if_pos c]
    generalize j_bt e (n_K B L j) P = o at *
    have rk := fun σ => p_rank (E := d) (by omega) (o := o) σ (by omega)
    have r1 := j_rk_1 (o := o) (by omega) (by omega)
    have ri := j_rk_in o
    obtain ⟨G1, e1, n1⟩ := p_settle (T := T) (s := s) (E := d) (by omega) ht hw (r := j_rk o) (by omega) h v1 (by omega) (by omega)
    have ns := n_set (r := j_rk o) (by omega) P C v1 v2
    have l1 := n_len160 ns.2.1 (by omega)
    generalize (j_set (j_rk o) P C).1 = P1 at *
    generalize (j_set (j_rk o) P C).2 = C1 at *
    have h16 := n1.1.2.1.1
    have lp : ((o :: P1).length : Int) = P1.length + 1 := by show ((P1.length + 1 : Nat) : Int) = _; omega
    have cn : j_cn (o :: P1) = j_cn P1 := by
      show (if 40 ≤ o ∨ o = 3 ∨ o = 20 then 1 else 0) + j_cn P1 = j_cn P1
      rw [if_neg (by omega)]; omega
    have mk : n_S B L t0 w0 q e G0 X0 (o :: P1) false j C1 (z_up (z_up G1 80 (z_ro (z_ro (G1 80) 16 ((P1.length : Int) + 1)) 18 0)) 85 (z_ro (G1 85) P1.length o)) (s.2 80 11) := n_S_mk n1 (fun r a b c => by rw [z_up_ne _ _ c, z_up_ne _ _ a]) (fun k a b c d => by rw [z_up_ne _ _ (by omega), z_up_eq, z_ro_ne _ _ d, z_ro_ne _ _ b]) (by rw [z_up_ne _ _ (by omega), z_up_eq, z_ro_ne _ _ (by omega), z_ro_ne _ _ (by omega)]; exact n1.1.2.2.1.2.1) (by rw [z_up_ne _ _ (by omega), z_up_eq, z_ro_ne _ _ (by omega), z_ro_eq, lp]) (by rw [z_up_ne _ _ (by omega), z_up_eq, z_ro_ne _ _ (by omega), z_ro_ne _ _ (by omega), cn]; exact n1.1.2.1.2.1) (by rw [z_up_ne _ _ (by omega), z_up_eq, z_ro_eq]; rfl) (by rw [z_up_eq]; exact ⟨z_ro_eq _ _ _, n_pl_ro P1 (Int.le_refl _) n1.2.1⟩) (by rw [z_up_ne _ _ (by omega), z_up_ne _ _ (by omega)]; exact n1.2.2.1)
    obtain ⟨G2, s2, e2, n2⟩ := p_mnext (T := T) (E := d) (by omega) hB mk
    refine ⟨_, rfl, G2, s2, ?_, n2⟩
    have c' : (o < 0) = False := eq_false (by omega)
    rw [e_M_behindOne]
    simp -implicitDefEqProofs (disch := first | assumption | omega | rfl | (simp only [z_up_eq, z_up_app, ↓reduceIte, Nat.reduceEqDiff]; omega)) only [z_lit0, z_lit1, z_lit2, z_litl, iI_add, iI_sub, iI_mul, iI_neg, iI_and, iI_or, iI_xor, iI_shl, iI_shr, iI_ushr, iI_div, iI_b, iI_c, iI_i2l, lI_l2i, lI_add, lI_sub, lI_mul, lI_neg, lI_div, lI_or, lI_and, lI_shl, lI_shr, nI_iI, lg_lt0, lg_gt0, lg_eq0, i_ne0', l_ne0', iI_lt, iI_le, iI_eq, lI_lt, lI_le, lI_eq, zb_0, zb_fit, zb_fit0, zb_fit1, i_one_zero, i_w_in, z_tb0, z_tb1, z_tb2, z_tb3, z_tb4, z_tb5, z_tb6, z_tb7, z_tb8, z_tbl, z_tu0, z_tu1, z_tu2, z_i_62, z_i_63, z_i_86, z_i_88, z_l_Y, z_ui_62, z_ui_63, z_ui_86, z_ui_88, z_ul_Y, z_sz_Y, z_sw_Y, iI_nat, z_ix_t, z_at, Int.add_zero, Int.sub_zero, Int.zero_add, Int.mul_zero, ne_eq, Bool.false_eq_true, Bool.true_eq_false, reduceCtorEq, eq_self, and_true, true_and, and_false, false_and, and_self, not_true_eq_false, not_false_eq_true, decide_true, decide_false, ↓reduceIte, Int.reduceEq, Int.reduceNe, Int.reduceLT, Int.reduceLE, Int.reduceAdd, Int.reduceSub, Int.reduceMul, Int.reduceNeg, Nat.reduceAdd, Nat.reduceEqDiff, Nat.reduceBEq, ↓z_x_eq, z_g_t, z_bI_s, z_bL_s, z_bR_s, z_bV_s, Int.cast_ofNat_Int, beq_self_eq_true, Bool.and_true, Bool.true_and, Bool.and_self, Bool.or_true, Bool.true_or, Bool.false_and, Bool.and_false, Bool.false_or, Bool.or_false, Bool.not_false, Bool.not_true, if_true, if_false, ite_true, ite_false, z_up_eq, z_up_app, z_ro_eq, bt, c', rk, e1, h16, z_up_up, z_up_cm, e2]
  rw [if_neg c]
  have c' : (j_bt e (n_K B L j) P < 0) = True := eq_true (by omega)
  by_cases c2 : (j_op P = 40 ∨ j_op P = 43) ∧ n_K B L j = 13
  · left
    rw [if_pos c2]
    have k13 : (n_K B L j = 13) = True := eq_true c2.2
    have b65 : z_call (d + 1) 97 [vr 80] (z_Y T G s) = z_w d_M_behindOne (z_call d) 65 [some (vr 80), none, some (vi (iI (j_op P)))] [] (z_Y T G s) := by
      rw [e_M_behindOne]
      by_cases z : j_op P = 40
      · have z' : (j_op P = 40) = True := eq_true z
        simp -implicitDefEqProofs (disch := first | assumption | omega | rfl | (simp only [z_up_eq, z_up_app, ↓reduceIte, Nat.reduceEqDiff]; omega)) only [z_lit0, z_lit1, z_lit2, z_litl, iI_add, iI_sub, iI_mul, iI_neg, iI_and, iI_or, iI_xor, iI_shl, iI_shr, iI_ushr, iI_div, iI_b, iI_c, iI_i2l, lI_l2i, lI_add, lI_sub, lI_mul, lI_neg, lI_div, lI_or, lI_and, lI_shl, lI_shr, nI_iI, lg_lt0, lg_gt0, lg_eq0, i_ne0', l_ne0', iI_lt, iI_le, iI_eq, lI_lt, lI_le, lI_eq, zb_0, zb_fit, zb_fit0, zb_fit1, i_one_zero, i_w_in, z_tb0, z_tb1, z_tb2, z_tb3, z_tb4, z_tb5, z_tb6, z_tb7, z_tb8, z_tbl, z_tu0, z_tu1, z_tu2, z_i_62, z_i_63, z_i_86, z_i_88, z_l_Y, z_ui_62, z_ui_63, z_ui_86, z_ui_88, z_ul_Y, z_sz_Y, z_sw_Y, iI_nat, z_ix_t, z_at, Int.add_zero, Int.sub_zero, Int.zero_add, Int.mul_zero, ne_eq, Bool.false_eq_true, Bool.true_eq_false, reduceCtorEq, eq_self, and_true, true_and, and_false, false_and, and_self, not_true_eq_false, not_false_eq_true, decide_true, decide_false, ↓reduceIte, Int.reduceEq, Int.reduceNe, Int.reduceLT, Int.reduceLE, Int.reduceAdd, Int.reduceSub, Int.reduceMul, Int.reduceNeg, Nat.reduceAdd, Nat.reduceEqDiff, Nat.reduceBEq, ↓z_x_eq, z_g_t, z_bI_s, z_bL_s, z_bR_s, z_bV_s, Int.cast_ofNat_Int, beq_self_eq_true, Bool.and_true, Bool.true_and, Bool.and_self, Bool.or_true, Bool.true_or, Bool.false_and, Bool.and_false, Bool.false_or, Bool.or_false, Bool.not_false, Bool.not_true, if_true, if_false, ite_true, ite_false, z_up_eq, z_up_app, z_ro_eq, bt, c', op, z']
      · have z' : (j_op P = 40) = False := eq_false z
        have z2' : (j_op P = 43) = True := eq_true (by omega)
        simp -implicitDefEqProofs (disch := first | assumption | omega | rfl | (simp only [z_up_eq, z_up_app, ↓reduceIte, Nat.reduceEqDiff]; omega)) only [z_lit0, z_lit1, z_lit2, z_litl, iI_add, iI_sub, iI_mul, iI_neg, iI_and, iI_or, iI_xor, iI_shl, iI_shr, iI_ushr, iI_div, iI_b, iI_c, iI_i2l, lI_l2i, lI_add, lI_sub, lI_mul, lI_neg, lI_div, lI_or, lI_and, lI_shl, lI_shr, nI_iI, lg_lt0, lg_gt0, lg_eq0, i_ne0', l_ne0', iI_lt, iI_le, iI_eq, lI_lt, lI_le, lI_eq, zb_0, zb_fit, zb_fit0, zb_fit1, i_one_zero, i_w_in, z_tb0, z_tb1, z_tb2, z_tb3, z_tb4, z_tb5, z_tb6, z_tb7, z_tb8, z_tbl, z_tu0, z_tu1, z_tu2, z_i_62, z_i_63, z_i_86, z_i_88, z_l_Y, z_ui_62, z_ui_63, z_ui_86, z_ui_88, z_ul_Y, z_sz_Y, z_sw_Y, iI_nat, z_ix_t, z_at, Int.add_zero, Int.sub_zero, Int.zero_add, Int.mul_zero, ne_eq, Bool.false_eq_true, Bool.true_eq_false, reduceCtorEq, eq_self, and_true, true_and, and_false, false_and, and_self, not_true_eq_false, not_false_eq_true, decide_true, decide_false, ↓reduceIte, Int.reduceEq, Int.reduceNe, Int.reduceLT, Int.reduceLE, Int.reduceAdd, Int.reduceSub, Int.reduceMul, Int.reduceNeg, Nat.reduceAdd, Nat.reduceEqDiff, Nat.reduceBEq, ↓z_x_eq, z_g_t, z_bI_s, z_bL_s, z_bR_s, z_bV_s, Int.cast_ofNat_Int, beq_self_eq_true, Bool.and_true, Bool.true_and, Bool.and_self, Bool.or_true, Bool.true_or, Bool.false_and, Bool.and_false, Bool.false_or, Bool.or_false, Bool.not_false, Bool.not_true, if_true, if_false, ite_true, ite_false, z_up_eq, z_up_app, z_ro_eq, bt, c', op, z', z2']
    obtain ⟨G1, e1, n1⟩ := p_settle (T := T) (s := s) (E := d) (by omega) ht hw (r := 1) (by omega) h v1 (by omega) (by omega)
    have ns := n_set (r := 1) (by omega) P C v1 v2
    have l1 := n_len160 ns.2.1 (by omega)
    obtain ⟨Q, hQ⟩ := n_set1 P C (by omega) v1
    rw [hQ] at n1 ns l1
    rw [hQ]
    generalize (j_set 1 P C).2 = C1 at *
    generalize j_op P = o at *
    have lq : ((o :: Q).length : Int) = Q.length + 1 := by show ((Q.length + 1 : Nat) : Int) = _; omega
    have lq' : (o :: Q).length = Q.length + 1 := rfl
    have h16 := n1.1.2.1.1
    have h17 := n1.1.2.1.2.1
    rw [lq] at h16
    have cn : (j_cn (o :: Q) : Int) = j_cn Q + 1 := by rw [j_cn_op (by omega)]; omega
    have cn' : j_cn (o :: Q) = 1 + j_cn Q := j_cn_op (by omega)
    rw [cn] at h17
    have x1 : (Q.length : Int) + 1 - 1 = Q.length := by omega
    have x2 : (j_cn Q : Int) + 1 - 1 = j_cn Q := by omega
    have r17 : z_ro (G1 80) 16 Q.length 17 = (j_cn Q : Int) + 1 := by rw [z_ro_ne _ _ (by omega)]; exact h17
    have mk : n_S B L t0 w0 q e G0 X0 Q true j C1 (z_up G1 80 (z_ro (z_ro (G1 80) 16 Q.length) 17 (j_cn Q))) (s.2 80 11) := n_S_mk n1 (fun r a b c => by rw [z_up_ne _ _ a]) (fun k a b c d => by rw [z_up_eq, z_ro_ne _ _ c, z_ro_ne _ _ b]) (by rw [z_up_eq, z_ro_ne _ _ (by omega), z_ro_ne _ _ (by omega)]; exact n1.1.2.2.1.2.1) (by rw [z_up_eq, z_ro_ne _ _ (by omega), z_ro_eq]) (by rw [z_up_eq, z_ro_eq]) (by rw [z_up_eq, z_ro_ne _ _ (by omega), z_ro_ne _ _ (by omega)]; exact n1.1.2.1.2.2.1) (by rw [z_up_ne _ _ (by omega)]; exact n1.2.1.2) (by rw [z_up_ne _ _ (by omega)]; exact n1.2.2.1)
    by_cases c3 : o = 43
    · have c3' : (o = 43) = True := eq_true c3
      rw [show (if o = 43 then C1 ++ [((2 : Int), (0 : Int))] else C1) = C1 ++ [(2, 0)] from if_pos c3]
      have lc : ((C1 ++ [((2 : Int), (0 : Int))]).length : Int) = C1.length + 1 := by rw [List.length_append, List.length_singleton]; omega
      have em := p_memit (E := d) (by omega) T (z_up G1 80 (z_ro (z_ro (G1 80) 16 Q.length) 17 (j_cn Q))) s (t0 := t0) (w := w0 + C1.length) mk.1.2.2.1.1 mk.1.2.2.1.2.1 ht (by omega) 2 0
      have ec : t0 + 97 + 2 * (w0 + (C1.length : Int)) = t0 + 97 + 2 * w0 + 2 * C1.length := by omega
      rw [mk.2.2.1, ec, n_cd_app, z_up_eq, z_up_up] at em
      have q16 := mk.1.2.1.1
      have q17 := mk.1.2.1.2.1
      have q18 := mk.1.2.1.2.2.1
      rw [z_up_eq] at q16 q17 q18
      have mk2 := n_S_mk (P' := Q) (wh' := true) (C' := C1 ++ [((2 : Int), (0 : Int))]) mk (G' := z_up (z_up G1 80 (z_ro (z_ro (z_ro (G1 80) 16 Q.length) 17 (j_cn Q)) 13 (w0 + C1.length + 1))) 83 (n_cd X0 (t0 + 97 + 2 * w0) (C1 ++ [(2, 0)]))) (fun r a b c => by rw [z_up_ne _ _ b, z_up_ne _ _ a, z_up_ne _ _ a]) (fun k a b c d => by rw [z_up_ne _ _ (by omega), z_up_eq, z_up_eq, z_ro_ne _ _ a]) (by rw [z_up_ne _ _ (by omega), z_up_eq, z_ro_eq, lc]; omega) (by rw [z_up_ne _ _ (by omega), z_up_eq, z_ro_ne _ _ (by omega)]; exact q16) (by rw [z_up_ne _ _ (by omega), z_up_eq, z_ro_ne _ _ (by omega)]; exact q17) (by rw [z_up_ne _ _ (by omega), z_up_eq, z_ro_ne _ _ (by omega)]; exact q18) (by rw [z_up_ne _ _ (by omega), z_up_ne _ _ (by omega)]; exact n1.2.1.2) (z_up_eq _ _ _)
      obtain ⟨G2, s2, e2, n2⟩ := p_mnext (T := T) (s := s) (E := d) (by omega) hB mk2
      obtain ⟨G3, e3, n3⟩ := p_settle (T := T) (s := s2) (E := d) (by omega) ht hw (r := 7) (by omega) n2 ns.1.2 (by omega) (by rw [lc]; omega)
      refine ⟨_, rfl, G3, s2, ?_, n3⟩
      rw [b65, e_M_behindOne_65]
      simp -implicitDefEqProofs (disch := first | assumption | omega | rfl | (simp only [z_up_eq, z_up_app, ↓reduceIte, Nat.reduceEqDiff]; omega)) only [z_lit0, z_lit1, z_lit2, z_litl, iI_add, iI_sub, iI_mul, iI_neg, iI_and, iI_or, iI_xor, iI_shl, iI_shr, iI_ushr, iI_div, iI_b, iI_c, iI_i2l, lI_l2i, lI_add, lI_sub, lI_mul, lI_neg, lI_div, lI_or, lI_and, lI_shl, lI_shr, nI_iI, lg_lt0, lg_gt0, lg_eq0, i_ne0', l_ne0', iI_lt, iI_le, iI_eq, lI_lt, lI_le, lI_eq, zb_0, zb_fit, zb_fit0, zb_fit1, i_one_zero, i_w_in, z_tb0, z_tb1, z_tb2, z_tb3, z_tb4, z_tb5, z_tb6, z_tb7, z_tb8, z_tbl, z_tu0, z_tu1, z_tu2, z_i_62, z_i_63, z_i_86, z_i_88, z_l_Y, z_ui_62, z_ui_63, z_ui_86, z_ui_88, z_ul_Y, z_sz_Y, z_sw_Y, iI_nat, z_ix_t, z_at, Int.add_zero, Int.sub_zero, Int.zero_add, Int.mul_zero, ne_eq, Bool.false_eq_true, Bool.true_eq_false, reduceCtorEq, eq_self, and_true, true_and, and_false, false_and, and_self, not_true_eq_false, not_false_eq_true, decide_true, decide_false, ↓reduceIte, Int.reduceEq, Int.reduceNe, Int.reduceLT, Int.reduceLE, Int.reduceAdd, Int.reduceSub, Int.reduceMul, Int.reduceNeg, Nat.reduceAdd, Nat.reduceEqDiff, Nat.reduceBEq, ↓z_x_eq, z_g_t, z_bI_s, z_bL_s, z_bR_s, z_bV_s, Int.cast_ofNat_Int, beq_self_eq_true, Bool.and_true, Bool.true_and, Bool.and_self, Bool.or_true, Bool.true_or, Bool.false_and, Bool.and_false, Bool.false_or, Bool.or_false, Bool.not_false, Bool.not_true, if_true, if_false, ite_true, ite_false, z_up_eq, z_up_app, z_ro_eq, t41, k13, e1, h16, x1, r17, x2, z_up_up, c3', em, e2, e3]
    · have c3' : (o = 43) = False := eq_false c3
      rw [show (if o = 43 then C1 ++ [((2 : Int), (0 : Int))] else C1) = C1 from if_neg c3]
      obtain ⟨G2, s2, e2, n2⟩ := p_mnext (T := T) (s := s) (E := d) (by omega) hB mk
      obtain ⟨G3, e3, n3⟩ := p_settle (T := T) (s := s2) (E := d) (by omega) ht hw (r := 7) (by omega) n2 ns.1.2 (by omega) (by omega)
      refine ⟨_, rfl, G3, s2, ?_, n3⟩
      rw [b65, e_M_behindOne_65]
      simp -implicitDefEqProofs (disch := first | assumption | omega | rfl | (simp only [z_up_eq, z_up_app, ↓reduceIte, Nat.reduceEqDiff]; omega)) only [z_lit0, z_lit1, z_lit2, z_litl, iI_add, iI_sub, iI_mul, iI_neg, iI_and, iI_or, iI_xor, iI_shl, iI_shr, iI_ushr, iI_div, iI_b, iI_c, iI_i2l, lI_l2i, lI_add, lI_sub, lI_mul, lI_neg, lI_div, lI_or, lI_and, lI_shl, lI_shr, nI_iI, lg_lt0, lg_gt0, lg_eq0, i_ne0', l_ne0', iI_lt, iI_le, iI_eq, lI_lt, lI_le, lI_eq, zb_0, zb_fit, zb_fit0, zb_fit1, i_one_zero, i_w_in, z_tb0, z_tb1, z_tb2, z_tb3, z_tb4, z_tb5, z_tb6, z_tb7, z_tb8, z_tbl, z_tu0, z_tu1, z_tu2, z_i_62, z_i_63, z_i_86, z_i_88, z_l_Y, z_ui_62, z_ui_63, z_ui_86, z_ui_88, z_ul_Y, z_sz_Y, z_sw_Y, iI_nat, z_ix_t, z_at, Int.add_zero, Int.sub_zero, Int.zero_add, Int.mul_zero, ne_eq, Bool.false_eq_true, Bool.true_eq_false, reduceCtorEq, eq_self, and_true, true_and, and_false, false_and, and_self, not_true_eq_false, not_false_eq_true, decide_true, decide_false, ↓reduceIte, Int.reduceEq, Int.reduceNe, Int.reduceLT, Int.reduceLE, Int.reduceAdd, Int.reduceSub, Int.reduceMul, Int.reduceNeg, Nat.reduceAdd, Nat.reduceEqDiff, Nat.reduceBEq, ↓z_x_eq, z_g_t, z_bI_s, z_bL_s, z_bR_s, z_bV_s, Int.cast_ofNat_Int, beq_self_eq_true, Bool.and_true, Bool.true_and, Bool.and_self, Bool.or_true, Bool.true_or, Bool.false_and, Bool.and_false, Bool.false_or, Bool.or_false, Bool.not_false, Bool.not_true, if_true, if_false, ite_true, ite_false, z_up_eq, z_up_app, z_ro_eq, t41, k13, e1, h16, x1, r17, x2, z_up_up, c3', e2, e3]
  rw [if_neg c2]
  by_cases c4 : (j_op P = 41 ∨ j_op P = 42) ∧ n_K B L j = 14
  · left
    rw [if_pos c4]
    have k14 : (n_K B L j = 14) = True := eq_true c4.2
    have z40 : (j_op P = 40) = False := eq_false (by omega)
    have z43 : (j_op P = 43) = False := eq_false (by omega)
    have b135 : z_call (d + 1) 97 [vr 80] (z_Y T G s) = z_w d_M_behindOne (z_call d) 135 [some (vr 80), none, some (vi (iI (j_op P)))] [] (z_Y T G s) := by
      rw [e_M_behindOne]
      by_cases z : j_op P = 41
      · have z' : (j_op P = 41) = True := eq_true z
        simp -implicitDefEqProofs (disch := first | assumption | omega | rfl | (simp only [z_up_eq, z_up_app, ↓reduceIte, Nat.reduceEqDiff]; omega)) only [z_lit0, z_lit1, z_lit2, z_litl, iI_add, iI_sub, iI_mul, iI_neg, iI_and, iI_or, iI_xor, iI_shl, iI_shr, iI_ushr, iI_div, iI_b, iI_c, iI_i2l, lI_l2i, lI_add, lI_sub, lI_mul, lI_neg, lI_div, lI_or, lI_and, lI_shl, lI_shr, nI_iI, lg_lt0, lg_gt0, lg_eq0, i_ne0', l_ne0', iI_lt, iI_le, iI_eq, lI_lt, lI_le, lI_eq, zb_0, zb_fit, zb_fit0, zb_fit1, i_one_zero, i_w_in, z_tb0, z_tb1, z_tb2, z_tb3, z_tb4, z_tb5, z_tb6, z_tb7, z_tb8, z_tbl, z_tu0, z_tu1, z_tu2, z_i_62, z_i_63, z_i_86, z_i_88, z_l_Y, z_ui_62, z_ui_63, z_ui_86, z_ui_88, z_ul_Y, z_sz_Y, z_sw_Y, iI_nat, z_ix_t, z_at, Int.add_zero, Int.sub_zero, Int.zero_add, Int.mul_zero, ne_eq, Bool.false_eq_true, Bool.true_eq_false, reduceCtorEq, eq_self, and_true, true_and, and_false, false_and, and_self, not_true_eq_false, not_false_eq_true, decide_true, decide_false, ↓reduceIte, Int.reduceEq, Int.reduceNe, Int.reduceLT, Int.reduceLE, Int.reduceAdd, Int.reduceSub, Int.reduceMul, Int.reduceNeg, Nat.reduceAdd, Nat.reduceEqDiff, Nat.reduceBEq, ↓z_x_eq, z_g_t, z_bI_s, z_bL_s, z_bR_s, z_bV_s, Int.cast_ofNat_Int, beq_self_eq_true, Bool.and_true, Bool.true_and, Bool.and_self, Bool.or_true, Bool.true_or, Bool.false_and, Bool.and_false, Bool.false_or, Bool.or_false, Bool.not_false, Bool.not_true, if_true, if_false, ite_true, ite_false, z_up_eq, z_up_app, z_ro_eq, bt, c', op, z40, z43, z']
      · have z' : (j_op P = 41) = False := eq_false z
        have z2' : (j_op P = 42) = True := eq_true (by omega)
        simp -implicitDefEqProofs (disch := first | assumption | omega | rfl | (simp only [z_up_eq, z_up_app, ↓reduceIte, Nat.reduceEqDiff]; omega)) only [z_lit0, z_lit1, z_lit2, z_litl, iI_add, iI_sub, iI_mul, iI_neg, iI_and, iI_or, iI_xor, iI_shl, iI_shr, iI_ushr, iI_div, iI_b, iI_c, iI_i2l, lI_l2i, lI_add, lI_sub, lI_mul, lI_neg, lI_div, lI_or, lI_and, lI_shl, lI_shr, nI_iI, lg_lt0, lg_gt0, lg_eq0, i_ne0', l_ne0', iI_lt, iI_le, iI_eq, lI_lt, lI_le, lI_eq, zb_0, zb_fit, zb_fit0, zb_fit1, i_one_zero, i_w_in, z_tb0, z_tb1, z_tb2, z_tb3, z_tb4, z_tb5, z_tb6, z_tb7, z_tb8, z_tbl, z_tu0, z_tu1, z_tu2, z_i_62, z_i_63, z_i_86, z_i_88, z_l_Y, z_ui_62, z_ui_63, z_ui_86, z_ui_88, z_ul_Y, z_sz_Y, z_sw_Y, iI_nat, z_ix_t, z_at, Int.add_zero, Int.sub_zero, Int.zero_add, Int.mul_zero, ne_eq, Bool.false_eq_true, Bool.true_eq_false, reduceCtorEq, eq_self, and_true, true_and, and_false, false_and, and_self, not_true_eq_false, not_false_eq_true, decide_true, decide_false, ↓reduceIte, Int.reduceEq, Int.reduceNe, Int.reduceLT, Int.reduceLE, Int.reduceAdd, Int.reduceSub, Int.reduceMul, Int.reduceNeg, Nat.reduceAdd, Nat.reduceEqDiff, Nat.reduceBEq, ↓z_x_eq, z_g_t, z_bI_s, z_bL_s, z_bR_s, z_bV_s, Int.cast_ofNat_Int, beq_self_eq_true, Bool.and_true, Bool.true_and, Bool.and_self, Bool.or_true, Bool.true_or, Bool.false_and, Bool.and_false, Bool.false_or, Bool.or_false, Bool.not_false, Bool.not_true, if_true, if_false, ite_true, ite_false, z_up_eq, z_up_app, z_ro_eq, bt, c', op, z40, z43, z', z2']
    obtain ⟨G1, e1, n1⟩ := p_settle (T := T) (s := s) (E := d) (by omega) ht hw (r := 1) (by omega) h v1 (by omega) (by omega)
    have ns := n_set (r := 1) (by omega) P C v1 v2
    have l1 := n_len160 ns.2.1 (by omega)
    obtain ⟨Q, hQ⟩ := n_set1 P C (by omega) v1
    rw [hQ] at n1 ns l1
    rw [hQ]
    generalize (j_set 1 P C).2 = C1 at *
    generalize j_op P = o at *
    have lq : ((o :: Q).length : Int) = Q.length + 1 := by show ((Q.length + 1 : Nat) : Int) = _; omega
    have lq2 : (((o + 1) :: Q).length : Int) = Q.length + 1 := by show ((Q.length + 1 : Nat) : Int) = _; omega
    have lq' : (o :: Q).length = Q.length + 1 := rfl
    have h16 := n1.1.2.1.1
    rw [lq] at h16
    have cn : j_cn ((o + 1) :: Q) = j_cn (o :: Q) := by rw [j_cn_op (by omega), j_cn_op (by omega)]
    have x1 : (Q.length : Int) + 1 - 1 = Q.length := by omega
    have mk : n_S B L t0 w0 q e G0 X0 ((o + 1) :: Q) false j C1 (z_up (z_up G1 80 (z_ro (G1 80) 18 0)) 85 (z_ro (G1 85) Q.length (o + 1))) (s.2 80 11) := n_S_mk n1 (fun r a b c => by rw [z_up_ne _ _ c, z_up_ne _ _ a]) (fun k a b c d => by rw [z_up_ne _ _ (by omega), z_up_eq, z_ro_ne _ _ d]) (by rw [z_up_ne _ _ (by omega), z_up_eq, z_ro_ne _ _ (by omega)]; exact n1.1.2.2.1.2.1) (by rw [z_up_ne _ _ (by omega), z_up_eq, z_ro_ne _ _ (by omega), lq2]; exact h16) (by rw [z_up_ne _ _ (by omega), z_up_eq, z_ro_ne _ _ (by omega), cn]; exact n1.1.2.1.2.1) (by rw [z_up_ne _ _ (by omega), z_up_eq, z_ro_eq]; rfl) (by rw [z_up_eq]; exact ⟨z_ro_eq _ _ _, n_pl_ro Q (Int.le_refl _) n1.2.1.2⟩) (by rw [z_up_ne _ _ (by omega), z_up_ne _ _ (by omega)]; exact n1.2.2.1)
    obtain ⟨G2, s2, e2, n2⟩ := p_mnext (T := T) (s := s) (E := d) (by omega) hB mk
    refine ⟨_, rfl, G2, s2, ?_, n2⟩
    rw [b135, e_M_behindOne_135]
    simp -implicitDefEqProofs (disch := first | assumption | omega | rfl | (simp only [z_up_eq, z_up_app, ↓reduceIte, Nat.reduceEqDiff]; omega)) only [z_lit0, z_lit1, z_lit2, z_litl, iI_add, iI_sub, iI_mul, iI_neg, iI_and, iI_or, iI_xor, iI_shl, iI_shr, iI_ushr, iI_div, iI_b, iI_c, iI_i2l, lI_l2i, lI_add, lI_sub, lI_mul, lI_neg, lI_div, lI_or, lI_and, lI_shl, lI_shr, nI_iI, lg_lt0, lg_gt0, lg_eq0, i_ne0', l_ne0', iI_lt, iI_le, iI_eq, lI_lt, lI_le, lI_eq, zb_0, zb_fit, zb_fit0, zb_fit1, i_one_zero, i_w_in, z_tb0, z_tb1, z_tb2, z_tb3, z_tb4, z_tb5, z_tb6, z_tb7, z_tb8, z_tbl, z_tu0, z_tu1, z_tu2, z_i_62, z_i_63, z_i_86, z_i_88, z_l_Y, z_ui_62, z_ui_63, z_ui_86, z_ui_88, z_ul_Y, z_sz_Y, z_sw_Y, iI_nat, z_ix_t, z_at, Int.add_zero, Int.sub_zero, Int.zero_add, Int.mul_zero, ne_eq, Bool.false_eq_true, Bool.true_eq_false, reduceCtorEq, eq_self, and_true, true_and, and_false, false_and, and_self, not_true_eq_false, not_false_eq_true, decide_true, decide_false, ↓reduceIte, Int.reduceEq, Int.reduceNe, Int.reduceLT, Int.reduceLE, Int.reduceAdd, Int.reduceSub, Int.reduceMul, Int.reduceNeg, Nat.reduceAdd, Nat.reduceEqDiff, Nat.reduceBEq, ↓z_x_eq, z_g_t, z_bI_s, z_bL_s, z_bR_s, z_bV_s, Int.cast_ofNat_Int, beq_self_eq_true, Bool.and_true, Bool.true_and, Bool.and_self, Bool.or_true, Bool.true_or, Bool.false_and, Bool.and_false, Bool.false_or, Bool.or_false, Bool.not_false, Bool.not_true, if_true, if_false, ite_true, ite_false, z_up_eq, z_up_app, z_ro_eq, t44, k14, e1, h16, x1, z_up_up, z_up_cm, e2]
  rw [if_neg c4]
  right
  refine ⟨?_, rfl⟩
  by_cases z40 : j_op P = 40
  · have z40' : (j_op P = 40) = True := eq_true z40
    have k13 : (n_K B L j = 13) = False := eq_false (fun z => c2 ⟨Or.inl z40, z⟩)
    have z41' : (j_op P = 41) = False := eq_false (by omega)
    have z42' : (j_op P = 42) = False := eq_false (by omega)
    rw [e_M_behindOne]
    simp -implicitDefEqProofs (disch := first | assumption | omega | rfl | (simp only [z_up_eq, z_up_app, ↓reduceIte, Nat.reduceEqDiff]; omega)) only [z_lit0, z_lit1, z_lit2, z_litl, iI_add, iI_sub, iI_mul, iI_neg, iI_and, iI_or, iI_xor, iI_shl, iI_shr, iI_ushr, iI_div, iI_b, iI_c, iI_i2l, lI_l2i, lI_add, lI_sub, lI_mul, lI_neg, lI_div, lI_or, lI_and, lI_shl, lI_shr, nI_iI, lg_lt0, lg_gt0, lg_eq0, i_ne0', l_ne0', iI_lt, iI_le, iI_eq, lI_lt, lI_le, lI_eq, zb_0, zb_fit, zb_fit0, zb_fit1, i_one_zero, i_w_in, z_tb0, z_tb1, z_tb2, z_tb3, z_tb4, z_tb5, z_tb6, z_tb7, z_tb8, z_tbl, z_tu0, z_tu1, z_tu2, z_i_62, z_i_63, z_i_86, z_i_88, z_l_Y, z_ui_62, z_ui_63, z_ui_86, z_ui_88, z_ul_Y, z_sz_Y, z_sw_Y, iI_nat, z_ix_t, z_at, Int.add_zero, Int.sub_zero, Int.zero_add, Int.mul_zero, ne_eq, Bool.false_eq_true, Bool.true_eq_false, reduceCtorEq, eq_self, and_true, true_and, and_false, false_and, and_self, not_true_eq_false, not_false_eq_true, decide_true, decide_false, ↓reduceIte, Int.reduceEq, Int.reduceNe, Int.reduceLT, Int.reduceLE, Int.reduceAdd, Int.reduceSub, Int.reduceMul, Int.reduceNeg, Nat.reduceAdd, Nat.reduceEqDiff, Nat.reduceBEq, ↓z_x_eq, z_g_t, z_bI_s, z_bL_s, z_bR_s, z_bV_s, Int.cast_ofNat_Int, beq_self_eq_true, Bool.and_true, Bool.true_and, Bool.and_self, Bool.or_true, Bool.true_or, Bool.false_and, Bool.and_false, Bool.false_or, Bool.or_false, Bool.not_false, Bool.not_true, if_true, if_false, ite_true, ite_false, z_up_eq, z_up_app, z_ro_eq, bt, c', op, z40']
    rw [e_M_behindOne_65]
    simp -implicitDefEqProofs (disch := first | assumption | omega | rfl | (simp only [z_up_eq, z_up_app, ↓reduceIte, Nat.reduceEqDiff]; omega)) only [z_lit0, z_lit1, z_lit2, z_litl, iI_add, iI_sub, iI_mul, iI_neg, iI_and, iI_or, iI_xor, iI_shl, iI_shr, iI_ushr, iI_div, iI_b, iI_c, iI_i2l, lI_l2i, lI_add, lI_sub, lI_mul, lI_neg, lI_div, lI_or, lI_and, lI_shl, lI_shr, nI_iI, lg_lt0, lg_gt0, lg_eq0, i_ne0', l_ne0', iI_lt, iI_le, iI_eq, lI_lt, lI_le, lI_eq, zb_0, zb_fit, zb_fit0, zb_fit1, i_one_zero, i_w_in, z_tb0, z_tb1, z_tb2, z_tb3, z_tb4, z_tb5, z_tb6, z_tb7, z_tb8, z_tbl, z_tu0, z_tu1, z_tu2, z_i_62, z_i_63, z_i_86, z_i_88, z_l_Y, z_ui_62, z_ui_63, z_ui_86, z_ui_88, z_ul_Y, z_sz_Y, z_sw_Y, iI_nat, z_ix_t, z_at, Int.add_zero, Int.sub_zero, Int.zero_add, Int.mul_zero, ne_eq, Bool.false_eq_true, Bool.true_eq_false, reduceCtorEq, eq_self, and_true, true_and, and_false, false_and, and_self, not_true_eq_false, not_false_eq_true, decide_true, decide_false, ↓reduceIte, Int.reduceEq, Int.reduceNe, Int.reduceLT, Int.reduceLE, Int.reduceAdd, Int.reduceSub, Int.reduceMul, Int.reduceNeg, Nat.reduceAdd, Nat.reduceEqDiff, Nat.reduceBEq, ↓z_x_eq, z_g_t, z_bI_s, z_bL_s, z_bR_s, z_bV_s, Int.cast_ofNat_Int, beq_self_eq_true, Bool.and_true, Bool.true_and, Bool.and_self, Bool.or_true, Bool.true_or, Bool.false_and, Bool.and_false, Bool.false_or, Bool.or_false, Bool.not_false, Bool.not_true, if_true, if_false, ite_true, ite_false, z_up_eq, z_up_app, z_ro_eq, t41, k13, z41', z42']
  have z40' : (j_op P = 40) = False := eq_false z40
  by_cases z43 : j_op P = 43
  · have z43' : (j_op P = 43) = True := eq_true z43
    have k13 : (n_K B L j = 13) = False := eq_false (fun z => c2 ⟨Or.inr z43, z⟩)
    have z41' : (j_op P = 41) = False := eq_false (by omega)
    have z42' : (j_op P = 42) = False := eq_false (by omega)
    rw [e_M_behindOne]
    simp -implicitDefEqProofs (disch := first | assumption | omega | rfl | (simp only [z_up_eq, z_up_app, ↓reduceIte, Nat.reduceEqDiff]; omega)) only [z_lit0, z_lit1, z_lit2, z_litl, iI_add, iI_sub, iI_mul, iI_neg, iI_and, iI_or, iI_xor, iI_shl, iI_shr, iI_ushr, iI_div, iI_b, iI_c, iI_i2l, lI_l2i, lI_add, lI_sub, lI_mul, lI_neg, lI_div, lI_or, lI_and, lI_shl, lI_shr, nI_iI, lg_lt0, lg_gt0, lg_eq0, i_ne0', l_ne0', iI_lt, iI_le, iI_eq, lI_lt, lI_le, lI_eq, zb_0, zb_fit, zb_fit0, zb_fit1, i_one_zero, i_w_in, z_tb0, z_tb1, z_tb2, z_tb3, z_tb4, z_tb5, z_tb6, z_tb7, z_tb8, z_tbl, z_tu0, z_tu1, z_tu2, z_i_62, z_i_63, z_i_86, z_i_88, z_l_Y, z_ui_62, z_ui_63, z_ui_86, z_ui_88, z_ul_Y, z_sz_Y, z_sw_Y, iI_nat, z_ix_t, z_at, Int.add_zero, Int.sub_zero, Int.zero_add, Int.mul_zero, ne_eq, Bool.false_eq_true, Bool.true_eq_false, reduceCtorEq, eq_self, and_true, true_and, and_false, false_and, and_self, not_true_eq_false, not_false_eq_true, decide_true, decide_false, ↓reduceIte, Int.reduceEq, Int.reduceNe, Int.reduceLT, Int.reduceLE, Int.reduceAdd, Int.reduceSub, Int.reduceMul, Int.reduceNeg, Nat.reduceAdd, Nat.reduceEqDiff, Nat.reduceBEq, ↓z_x_eq, z_g_t, z_bI_s, z_bL_s, z_bR_s, z_bV_s, Int.cast_ofNat_Int, beq_self_eq_true, Bool.and_true, Bool.true_and, Bool.and_self, Bool.or_true, Bool.true_or, Bool.false_and, Bool.and_false, Bool.false_or, Bool.or_false, Bool.not_false, Bool.not_true, if_true, if_false, ite_true, ite_false, z_up_eq, z_up_app, z_ro_eq, bt, c', op, z40', z43']
    rw [e_M_behindOne_65]
    simp -implicitDefEqProofs (disch := first | assumption | omega | rfl | (simp only [z_up_eq, z_up_app, ↓reduceIte, Nat.reduceEqDiff]; omega)) only [z_lit0, z_lit1, z_lit2, z_litl, iI_add, iI_sub, iI_mul, iI_neg, iI_and, iI_or, iI_xor, iI_shl, iI_shr, iI_ushr, iI_div, iI_b, iI_c, iI_i2l, lI_l2i, lI_add, lI_sub, lI_mul, lI_neg, lI_div, lI_or, lI_and, lI_shl, lI_shr, nI_iI, lg_lt0, lg_gt0, lg_eq0, i_ne0', l_ne0', iI_lt, iI_le, iI_eq, lI_lt, lI_le, lI_eq, zb_0, zb_fit, zb_fit0, zb_fit1, i_one_zero, i_w_in, z_tb0, z_tb1, z_tb2, z_tb3, z_tb4, z_tb5, z_tb6, z_tb7, z_tb8, z_tbl, z_tu0, z_tu1, z_tu2, z_i_62, z_i_63, z_i_86, z_i_88, z_l_Y, z_ui_62, z_ui_63, z_ui_86, z_ui_88, z_ul_Y, z_sz_Y, z_sw_Y, iI_nat, z_ix_t, z_at, Int.add_zero, Int.sub_zero, Int.zero_add, Int.mul_zero, ne_eq, Bool.false_eq_true, Bool.true_eq_false, reduceCtorEq, eq_self, and_true, true_and, and_false, false_and, and_self, not_true_eq_false, not_false_eq_true, decide_true, decide_false, ↓reduceIte, Int.reduceEq, Int.reduceNe, Int.reduceLT, Int.reduceLE, Int.reduceAdd, Int.reduceSub, Int.reduceMul, Int.reduceNeg, Nat.reduceAdd, Nat.reduceEqDiff, Nat.reduceBEq, ↓z_x_eq, z_g_t, z_bI_s, z_bL_s, z_bR_s, z_bV_s, Int.cast_ofNat_Int, beq_self_eq_true, Bool.and_true, Bool.true_and, Bool.and_self, Bool.or_true, Bool.true_or, Bool.false_and, Bool.and_false, Bool.false_or, Bool.or_false, Bool.not_false, Bool.not_true, if_true, if_false, ite_true, ite_false, z_up_eq, z_up_app, z_ro_eq, t41, k13, z41', z42']
  have z43' : (j_op P = 43) = False := eq_false z43
  by_cases z41 : j_op P = 41
  · have z41' : (j_op P = 41) = True := eq_true z41
    have k14 : (n_K B L j = 14) = False := eq_false (fun z => c4 ⟨Or.inl z41, z⟩)
    rw [e_M_behindOne]
    simp -implicitDefEqProofs (disch := first | assumption | omega | rfl | (simp only [z_up_eq, z_up_app, ↓reduceIte, Nat.reduceEqDiff]; omega)) only [z_lit0, z_lit1, z_lit2, z_litl, iI_add, iI_sub, iI_mul, iI_neg, iI_and, iI_or, iI_xor, iI_shl, iI_shr, iI_ushr, iI_div, iI_b, iI_c, iI_i2l, lI_l2i, lI_add, lI_sub, lI_mul, lI_neg, lI_div, lI_or, lI_and, lI_shl, lI_shr, nI_iI, lg_lt0, lg_gt0, lg_eq0, i_ne0', l_ne0', iI_lt, iI_le, iI_eq, lI_lt, lI_le, lI_eq, zb_0, zb_fit, zb_fit0, zb_fit1, i_one_zero, i_w_in, z_tb0, z_tb1, z_tb2, z_tb3, z_tb4, z_tb5, z_tb6, z_tb7, z_tb8, z_tbl, z_tu0, z_tu1, z_tu2, z_i_62, z_i_63, z_i_86, z_i_88, z_l_Y, z_ui_62, z_ui_63, z_ui_86, z_ui_88, z_ul_Y, z_sz_Y, z_sw_Y, iI_nat, z_ix_t, z_at, Int.add_zero, Int.sub_zero, Int.zero_add, Int.mul_zero, ne_eq, Bool.false_eq_true, Bool.true_eq_false, reduceCtorEq, eq_self, and_true, true_and, and_false, false_and, and_self, not_true_eq_false, not_false_eq_true, decide_true, decide_false, ↓reduceIte, Int.reduceEq, Int.reduceNe, Int.reduceLT, Int.reduceLE, Int.reduceAdd, Int.reduceSub, Int.reduceMul, Int.reduceNeg, Nat.reduceAdd, Nat.reduceEqDiff, Nat.reduceBEq, ↓z_x_eq, z_g_t, z_bI_s, z_bL_s, z_bR_s, z_bV_s, Int.cast_ofNat_Int, beq_self_eq_true, Bool.and_true, Bool.true_and, Bool.and_self, Bool.or_true, Bool.true_or, Bool.false_and, Bool.and_false, Bool.false_or, Bool.or_false, Bool.not_false, Bool.not_true, if_true, if_false, ite_true, ite_false, z_up_eq, z_up_app, z_ro_eq, bt, c', op, z40', z43', z41']
    rw [e_M_behindOne_135]
    simp -implicitDefEqProofs (disch := first | assumption | omega | rfl | (simp only [z_up_eq, z_up_app, ↓reduceIte, Nat.reduceEqDiff]; omega)) only [z_lit0, z_lit1, z_lit2, z_litl, iI_add, iI_sub, iI_mul, iI_neg, iI_and, iI_or, iI_xor, iI_shl, iI_shr, iI_ushr, iI_div, iI_b, iI_c, iI_i2l, lI_l2i, lI_add, lI_sub, lI_mul, lI_neg, lI_div, lI_or, lI_and, lI_shl, lI_shr, nI_iI, lg_lt0, lg_gt0, lg_eq0, i_ne0', l_ne0', iI_lt, iI_le, iI_eq, lI_lt, lI_le, lI_eq, zb_0, zb_fit, zb_fit0, zb_fit1, i_one_zero, i_w_in, z_tb0, z_tb1, z_tb2, z_tb3, z_tb4, z_tb5, z_tb6, z_tb7, z_tb8, z_tbl, z_tu0, z_tu1, z_tu2, z_i_62, z_i_63, z_i_86, z_i_88, z_l_Y, z_ui_62, z_ui_63, z_ui_86, z_ui_88, z_ul_Y, z_sz_Y, z_sw_Y, iI_nat, z_ix_t, z_at, Int.add_zero, Int.sub_zero, Int.zero_add, Int.mul_zero, ne_eq, Bool.false_eq_true, Bool.true_eq_false, reduceCtorEq, eq_self, and_true, true_and, and_false, false_and, and_self, not_true_eq_false, not_false_eq_true, decide_true, decide_false, ↓reduceIte, Int.reduceEq, Int.reduceNe, Int.reduceLT, Int.reduceLE, Int.reduceAdd, Int.reduceSub, Int.reduceMul, Int.reduceNeg, Nat.reduceAdd, Nat.reduceEqDiff, Nat.reduceBEq, ↓z_x_eq, z_g_t, z_bI_s, z_bL_s, z_bR_s, z_bV_s, Int.cast_ofNat_Int, beq_self_eq_true, Bool.and_true, Bool.true_and, Bool.and_self, Bool.or_true, Bool.true_or, Bool.false_and, Bool.and_false, Bool.false_or, Bool.or_false, Bool.not_false, Bool.not_true, if_true, if_false, ite_true, ite_false, z_up_eq, z_up_app, z_ro_eq, t44, k14]
  have z41' : (j_op P = 41) = False := eq_false z41
  by_cases z42 : j_op P = 42
  · have z42' : (j_op P = 42) = True := eq_true z42
    have k14 : (n_K B L j = 14) = False := eq_false (fun z => c4 ⟨Or.inr z42, z⟩)
    rw [e_M_behindOne]
    simp -implicitDefEqProofs (disch := first | assumption | omega | rfl | (simp only [z_up_eq, z_up_app, ↓reduceIte, Nat.reduceEqDiff]; omega)) only [z_lit0, z_lit1, z_lit2, z_litl, iI_add, iI_sub, iI_mul, iI_neg, iI_and, iI_or, iI_xor, iI_shl, iI_shr, iI_ushr, iI_div, iI_b, iI_c, iI_i2l, lI_l2i, lI_add, lI_sub, lI_mul, lI_neg, lI_div, lI_or, lI_and, lI_shl, lI_shr, nI_iI, lg_lt0, lg_gt0, lg_eq0, i_ne0', l_ne0', iI_lt, iI_le, iI_eq, lI_lt, lI_le, lI_eq, zb_0, zb_fit, zb_fit0, zb_fit1, i_one_zero, i_w_in, z_tb0, z_tb1, z_tb2, z_tb3, z_tb4, z_tb5, z_tb6, z_tb7, z_tb8, z_tbl, z_tu0, z_tu1, z_tu2, z_i_62, z_i_63, z_i_86, z_i_88, z_l_Y, z_ui_62, z_ui_63, z_ui_86, z_ui_88, z_ul_Y, z_sz_Y, z_sw_Y, iI_nat, z_ix_t, z_at, Int.add_zero, Int.sub_zero, Int.zero_add, Int.mul_zero, ne_eq, Bool.false_eq_true, Bool.true_eq_false, reduceCtorEq, eq_self, and_true, true_and, and_false, false_and, and_self, not_true_eq_false, not_false_eq_true, decide_true, decide_false, ↓reduceIte, Int.reduceEq, Int.reduceNe, Int.reduceLT, Int.reduceLE, Int.reduceAdd, Int.reduceSub, Int.reduceMul, Int.reduceNeg, Nat.reduceAdd, Nat.reduceEqDiff, Nat.reduceBEq, ↓z_x_eq, z_g_t, z_bI_s, z_bL_s, z_bR_s, z_bV_s, Int.cast_ofNat_Int, beq_self_eq_true, Bool.and_true, Bool.true_and, Bool.and_self, Bool.or_true, Bool.true_or, Bool.false_and, Bool.and_false, Bool.false_or, Bool.or_false, Bool.not_false, Bool.not_true, if_true, if_false, ite_true, ite_false, z_up_eq, z_up_app, z_ro_eq, bt, c', op, z40', z43', z41', z42']
    rw [e_M_behindOne_135]
    simp -implicitDefEqProofs (disch := first | assumption | omega | rfl | (simp only [z_up_eq, z_up_app, ↓reduceIte, Nat.reduceEqDiff]; omega)) only [z_lit0, z_lit1, z_lit2, z_litl, iI_add, iI_sub, iI_mul, iI_neg, iI_and, iI_or, iI_xor, iI_shl, iI_shr, iI_ushr, iI_div, iI_b, iI_c, iI_i2l, lI_l2i, lI_add, lI_sub, lI_mul, lI_neg, lI_div, lI_or, lI_and, lI_shl, lI_shr, nI_iI, lg_lt0, lg_gt0, lg_eq0, i_ne0', l_ne0', iI_lt, iI_le, iI_eq, lI_lt, lI_le, lI_eq, zb_0, zb_fit, zb_fit0, zb_fit1, i_one_zero, i_w_in, z_tb0, z_tb1, z_tb2, z_tb3, z_tb4, z_tb5, z_tb6, z_tb7, z_tb8, z_tbl, z_tu0, z_tu1, z_tu2, z_i_62, z_i_63, z_i_86, z_i_88, z_l_Y, z_ui_62, z_ui_63, z_ui_86, z_ui_88, z_ul_Y, z_sz_Y, z_sw_Y, iI_nat, z_ix_t, z_at, Int.add_zero, Int.sub_zero, Int.zero_add, Int.mul_zero, ne_eq, Bool.false_eq_true, Bool.true_eq_false, reduceCtorEq, eq_self, and_true, true_and, and_false, false_and, and_self, not_true_eq_false, not_false_eq_true, decide_true, decide_false, ↓reduceIte, Int.reduceEq, Int.reduceNe, Int.reduceLT, Int.reduceLE, Int.reduceAdd, Int.reduceSub, Int.reduceMul, Int.reduceNeg, Nat.reduceAdd, Nat.reduceEqDiff, Nat.reduceBEq, ↓z_x_eq, z_g_t, z_bI_s, z_bL_s, z_bR_s, z_bV_s, Int.cast_ofNat_Int, beq_self_eq_true, Bool.and_true, Bool.true_and, Bool.and_self, Bool.or_true, Bool.true_or, Bool.false_and, Bool.and_false, Bool.false_or, Bool.or_false, Bool.not_false, Bool.not_true, if_true, if_false, ite_true, ite_false, z_up_eq, z_up_app, z_ro_eq, t44, k14]
  · have z42' : (j_op P = 42) = False := eq_false z42
    rw [e_M_behindOne]
    simp -implicitDefEqProofs (disch := first | assumption | omega | rfl | (simp only [z_up_eq, z_up_app, ↓reduceIte, Nat.reduceEqDiff]; omega)) only [z_lit0, z_lit1, z_lit2, z_litl, iI_add, iI_sub, iI_mul, iI_neg, iI_and, iI_or, iI_xor, iI_shl, iI_shr, iI_ushr, iI_div, iI_b, iI_c, iI_i2l, lI_l2i, lI_add, lI_sub, lI_mul, lI_neg, lI_div, lI_or, lI_and, lI_shl, lI_shr, nI_iI, lg_lt0, lg_gt0, lg_eq0, i_ne0', l_ne0', iI_lt, iI_le, iI_eq, lI_lt, lI_le, lI_eq, zb_0, zb_fit, zb_fit0, zb_fit1, i_one_zero, i_w_in, z_tb0, z_tb1, z_tb2, z_tb3, z_tb4, z_tb5, z_tb6, z_tb7, z_tb8, z_tbl, z_tu0, z_tu1, z_tu2, z_i_62, z_i_63, z_i_86, z_i_88, z_l_Y, z_ui_62, z_ui_63, z_ui_86, z_ui_88, z_ul_Y, z_sz_Y, z_sw_Y, iI_nat, z_ix_t, z_at, Int.add_zero, Int.sub_zero, Int.zero_add, Int.mul_zero, ne_eq, Bool.false_eq_true, Bool.true_eq_false, reduceCtorEq, eq_self, and_true, true_and, and_false, false_and, and_self, not_true_eq_false, not_false_eq_true, decide_true, decide_false, ↓reduceIte, Int.reduceEq, Int.reduceNe, Int.reduceLT, Int.reduceLE, Int.reduceAdd, Int.reduceSub, Int.reduceMul, Int.reduceNeg, Nat.reduceAdd, Nat.reduceEqDiff, Nat.reduceBEq, ↓z_x_eq, z_g_t, z_bI_s, z_bL_s, z_bR_s, z_bV_s, Int.cast_ofNat_Int, beq_self_eq_true, Bool.and_true, Bool.true_and, Bool.and_self, Bool.or_true, Bool.true_or, Bool.false_and, Bool.and_false, Bool.false_or, Bool.or_false, Bool.not_false, Bool.not_true, if_true, if_false, ite_true, ite_false, z_up_eq, z_up_app, z_ro_eq, bt, c', op, z40', z43', z41', z42']
/-! the bounds stay -/
theorem n_iv_set {P P' : List Int} {j j' : Nat} {C D : List (Int × Int)} {r : Int} (hr : 1 ≤ r) (h1 : n_el P) (h2 : n_gd P) (h3 : j_cn P ≤ 8) (h4 : w0 + D.length + P.length ≤ j') (h5 : j' ≤ N) : n_iv N w0 (j_set r P D).1 j' (j_set r P D).2 := by
  have ns := n_set hr P D h1 h2
  exact ⟨ns.1, ns.2.1, by omega, by omega, h5⟩
theorem n_iv_st {K V : Nat → Int} {nm : Int → Bool} (hw : 0 ≤ w0) (hK : ∀ j, N ≤ j → K j = 0) {P : List Int} {wh : Bool} {j : Nat} {C : List (Int × Int)} {S : US} (hv : n_iv N w0 P j C) (h : j_st e K V nm (P, wh, j, C) = .inl S) : n_iv N w0 S.1 S.2.2.1 S.2.2.2 := by
  have jl : ∀ i, K i ≠ 0 → i + 1 ≤ N := fun i z => by
    by_cases y : i < N
    · omega
    · exact absurd (hK i (by omega)) z
  obtain ⟨v1, v2, v3, v4, v5⟩ := hv
  cases wh with
  | false =>
    have h' : j_bg e K V nm P j C = .inl S := h
    have pu : ∀ (o : Int) (j' : Nat), (o = 40 ∨ o = 3 ∨ o = 20) → K j ≠ 0 → j_pu o P j (j + 1) C = .inl S → n_iv N w0 S.1 S.2.2.1 S.2.2.2 := fun o j' ho hk hp => by
      unfold j_pu at hp
      by_cases c8 : j_cn P = 8
      · rw [if_pos c8] at hp; cases hp
      · rw [if_neg c8] at hp
        cases hp
        have := jl j hk
        exact ⟨⟨by omega, v1⟩, ⟨fun z => by omega, v2⟩, by show j_cn (o :: P) ≤ 8; rw [j_cn_op (by omega)]; omega, by show w0 + (C.length : Int) + ((P.length + 1 : Nat) : Int) ≤ ((j + 1 : Nat) : Int); omega, this⟩
    unfold j_bg at h'
    by_cases c1 : K j = 2
    · rw [if_pos c1] at h'
      by_cases c2 : 9999 < V j
      · rw [if_pos c2] at h'; cases h'
      · rw [if_neg c2] at h'
        cases h'
        show n_iv N w0 (j_set 7 P (C ++ [(0, V j)])).1 (j + 1) (j_set 7 P (C ++ [(0, V j)])).2
        exact n_iv_set (P' := P) (j := j) (C := C) (by omega) v1 v2 v3 (by rw [List.length_append, List.length_singleton]; omega) (jl j (by omega))
    rw [if_neg c1] at h'
    by_cases c2 : 18 ≤ K j ∧ K j ≤ 27
    · rw [if_pos c2] at h'
      by_cases c3 : nm (K j - 18) = true
      · rw [if_pos c3] at h'
        cases h'
        show n_iv N w0 (j_set 7 P (C ++ [(1, K j - 18)])).1 (j + 1) (j_set 7 P (C ++ [(1, K j - 18)])).2
        exact n_iv_set (P' := P) (j := j) (C := C) (by omega) v1 v2 v3 (by rw [List.length_append, List.length_singleton]; omega) (jl j (by omega))
      · rw [if_neg c3] at h'; cases h'
    rw [if_neg c2] at h'
    by_cases c3 : K j = 12
    · rw [if_pos c3] at h'
      exact pu 40 j (by omega) (by omega) h'
    rw [if_neg c3] at h'
    by_cases c4 : K j = 4
    · rw [if_pos c4] at h'
      exact pu 3 j (by omega) (by omega) h'
    rw [if_neg c4] at h'
    by_cases c5 : K j = 44
    · rw [if_pos c5] at h'
      by_cases c8 : j_cn P = 8
      · rw [if_pos c8] at h'; cases h'
      rw [if_neg c8] at h'
      by_cases c9 : K (j + 1) = 12
      · rw [if_pos c9] at h'
        cases h'
        have := jl (j + 1) (by omega)
        exact ⟨⟨by omega, v1⟩, ⟨fun z => by omega, v2⟩, by show j_cn (41 :: P) ≤ 8; rw [j_cn_op (by omega)]; omega, by show w0 + (C.length : Int) + ((P.length + 1 : Nat) : Int) ≤ ((j + 2 : Nat) : Int); omega, this⟩
      · rw [if_neg c9] at h'; cases h'
    rw [if_neg c5] at h'
    by_cases c6 : K j = 43 ∧ j_ah e P = true
    · rw [if_pos c6] at h'
      exact pu 20 j (by omega) (by omega) h'
    · rw [if_neg c6] at h'; cases h'
  | true =>
    have h' : j_be e K P j C = .inl S := h
    unfold j_be at h'
    by_cases c : 0 ≤ j_bt e (K j) P
    · rw [if_pos c] at h'
      cases h'
      have bi := j_bt_in e (K j) P
      have := jl j (n_bt0 c)
      generalize j_bt e (K j) P = o at *
      have r1 := j_rk_1 (o := o) (by omega) (by omega)
      have ns := n_set (r := j_rk o) (by omega) P C v1 v2
      refine ⟨⟨by omega, ns.1⟩, ⟨fun _ => ns.2.2.2.1, ns.2.1⟩, ?_, ?_, this⟩
      · show (if 40 ≤ o ∨ o = 3 ∨ o = 20 then 1 else 0) + j_cn (j_set (j_rk o) P C).1 ≤ 8
        rw [if_neg (by omega)]; omega
      · show w0 + ((j_set (j_rk o) P C).2.length : Int) + (((j_set (j_rk o) P C).1.length + 1 : Nat) : Int) ≤ ((j + 1 : Nat) : Int)
        omega
    rw [if_neg c] at h'
    have ns := n_set (r := 1) (by omega) P C v1 v2
    by_cases c2 : (j_op P = 40 ∨ j_op P = 43) ∧ K j = 13
    · rw [if_pos c2] at h'
      obtain ⟨Q, hQ⟩ := n_set1 P C (by omega) v1
      rw [hQ] at h' ns
      have := jl j (by omega)
      have lq : (j_op P :: Q).length = Q.length + 1 := rfl
      have cq : j_cn (j_op P :: Q) = 1 + j_cn Q := j_cn_op (by omega)
      cases h'
      refine n_iv_set (P' := Q) (j := j) (C := C) (by omega) ns.1.2 ns.2.1.2 (by show j_cn Q ≤ 8; omega) ?_ this
      show w0 + ((if j_op P = 43 then (j_set 1 P C).2 ++ [((2 : Int), (0 : Int))] else (j_set 1 P C).2).length : Int) + (Q.length : Int) ≤ ((j + 1 : Nat) : Int)
      split
      · rw [List.length_append, List.length_singleton]; omega
      · omega
    rw [if_neg c2] at h'
    by_cases c3 : (j_op P = 41 ∨ j_op P = 42) ∧ K j = 14
    · rw [if_pos c3] at h'
      obtain ⟨Q, hQ⟩ := n_set1 P C (by omega) v1
      rw [hQ] at h' ns
      have := jl j (by omega)
      have lq : (j_op P :: Q).length = Q.length + 1 := rfl
      have cq : j_cn (j_op P :: Q) = 1 + j_cn Q := j_cn_op (by omega)
      cases h'
      refine ⟨⟨by omega, ns.1.2⟩, ⟨fun z => by omega, ns.2.1.2⟩, ?_, ?_, this⟩
      · show j_cn ((j_op P + 1) :: Q) ≤ 8
        rw [j_cn_op (by omega)]; omega
      · show w0 + ((j_set 1 P C).2.length : Int) + ((Q.length + 1 : Nat) : Int) ≤ ((j + 1 : Nat) : Int)
        omega
    rw [if_neg c3] at h'
    split at h' <;> cases h'
/-- what a law of the model's ends with -/
def n_fin (T : ZT) (B : Int → Int) (L t0 w0 q : Int) (e : Bool) (G0 : ZG) (X0 : Int → Int) (x : UR) (v : ZR) : Prop := (0 ≤ x.1 ∧ x.1 ≤ 6) ∧ ∃ P' wh' C' G' s', v = some (vi (iI x.1), z_Y T G' s') ∧ w0 + C'.length ≤ 300 ∧ (x.1 = 0 → C' = x.2.2) ∧ n_S B L t0 w0 q e G0 X0 P' wh' x.2.1 C' G' (s'.2 80 11)
theorem p_parsed_20 {E : Nat} (hE : 9 ≤ E) (hB : y_tm G0 B L) (ht : 0 ≤ t0 ∧ t0 ≤ 2115) (hw : 0 ≤ w0) (hq : 0 ≤ q ∧ q ≤ 2) (hN : N ≤ 300) (hK : ∀ j, N ≤ j → n_K B L j = 0) : ∀ (n : Nat) (P : List Int) (wh : Bool) (j : Nat) (C : List (Int × Int)) (x : UR) (G : ZG) (s : ZG × ZG), j_go e (n_K B L) (n_V B L) (j_nm q) n (P, wh, j, C) = some x → n_S B L t0 w0 q e G0 X0 P wh j C G (s.2 80 11) → n_iv N w0 P j C → n_fin T B L t0 w0 q e G0 X0 x (z_w d_M_parsed (z_call E) 20 [some (vr 80), some (vi (iI (zb e))), none] [] (z_Y T G s))
  | 0, _, _, _, _, _, _, _, h, _, _ => by cases h
  | n + 1, P, wh, j, C, x, G, s, hg, h, hv => by
    have hg' : (match j_st e (n_K B L) (n_V B L) (j_nm q) (P, wh, j, C) with | .inl S' => j_go e (n_K B L) (n_V B L) (j_nm q) n S' | .inr x => some x) = some x := hg
    have iv := fun S => n_iv_st (e := e) (K := n_K B L) (V := n_V B L) (nm := j_nm q) (S := S) (wh := wh) hw hK hv
    have ih := p_parsed_20 hE hB ht hw hq hN hK n
    have h18 := h.1.2.1.2.2.1
    cases wh with
    | false =>
      have st := p_begin (T := T) (s := s) (E := E) (by omega) hB ht hw hq hN hK h hv
      have ej : j_st e (n_K B L) (n_V B L) (j_nm q) (P, false, j, C) = j_bg e (n_K B L) (n_V B L) (j_nm q) P j C := rfl
      rw [ej] at hg' iv
      generalize j_bg e (n_K B L) (n_V B L) (j_nm q) P j C = y at *
      cases y with
      | inl S =>
        obtain ⟨G', s', e1, n1⟩ := st
        have r := ih S.1 S.2.1 S.2.2.1 S.2.2.2 x G' s' hg' n1 (iv S rfl)
        have em : z_w d_M_parsed (z_call E) 20 [some (vr 80), some (vi (iI (zb e))), none] [] (z_Y T G s) = z_w d_M_parsed (z_call E) 20 [some (vr 80), some (vi (iI (zb e))), none] [] (z_Y T G' s') := by
          rw [e_M_parsed_20]
          simp -implicitDefEqProofs (disch := first | assumption | omega | rfl | (simp only [z_up_eq, z_up_app, ↓reduceIte, Nat.reduceEqDiff]; omega)) only [z_lit0, z_lit1, z_lit2, z_litl, iI_add, iI_sub, iI_mul, iI_neg, iI_and, iI_or, iI_xor, iI_shl, iI_shr, iI_ushr, iI_div, iI_b, iI_c, iI_i2l, lI_l2i, lI_add, lI_sub, lI_mul, lI_neg, lI_div, lI_or, lI_and, lI_shl, lI_shr, nI_iI, lg_lt0, lg_gt0, lg_eq0, i_ne0', l_ne0', iI_lt, iI_le, iI_eq, lI_lt, lI_le, lI_eq, zb_0, zb_fit, zb_fit0, zb_fit1, i_one_zero, i_w_in, z_tb0, z_tb1, z_tb2, z_tb3, z_tb4, z_tb5, z_tb6, z_tb7, z_tb8, z_tbl, z_tu0, z_tu1, z_tu2, z_i_62, z_i_63, z_i_86, z_i_88, z_l_Y, z_ui_62, z_ui_63, z_ui_86, z_ui_88, z_ul_Y, z_sz_Y, z_sw_Y, iI_nat, z_ix_t, z_at, Int.add_zero, Int.sub_zero, Int.zero_add, Int.mul_zero, ne_eq, Bool.false_eq_true, Bool.true_eq_false, reduceCtorEq, eq_self, and_true, true_and, and_false, false_and, and_self, not_true_eq_false, not_false_eq_true, decide_true, decide_false, ↓reduceIte, Int.reduceEq, Int.reduceNe, Int.reduceLT, Int.reduceLE, Int.reduceAdd, Int.reduceSub, Int.reduceMul, Int.reduceNeg, Nat.reduceAdd, Nat.reduceEqDiff, Nat.reduceBEq, ↓z_x_eq, z_g_t, z_bI_s, z_bL_s, z_bR_s, z_bV_s, Int.cast_ofNat_Int, beq_self_eq_true, Bool.and_true, Bool.true_and, Bool.and_self, Bool.or_true, Bool.true_or, Bool.false_and, Bool.and_false, Bool.false_or, Bool.or_false, Bool.not_false, Bool.not_true, if_true, if_false, ite_true, ite_false, z_up_eq, z_up_app, z_ro_eq, h18, zb_f, e1]
        rw [em]; exact r
      | inr y =>
        obtain ⟨y1, y2, y3, P', wh', C', G', s', e1, b1, n1⟩ := st
        have hx : y = x := Option.some.inj hg'
        subst hx
        refine ⟨⟨y2, y3⟩, P', wh', C', G', s', ?_, b1, fun z => absurd z y1, n1⟩
        have y1' : (y.1 = 0) = False := eq_false y1
        rw [e_M_parsed_20]
        simp -implicitDefEqProofs (disch := first | assumption | omega | rfl | (simp only [z_up_eq, z_up_app, ↓reduceIte, Nat.reduceEqDiff]; omega)) only [z_lit0, z_lit1, z_lit2, z_litl, iI_add, iI_sub, iI_mul, iI_neg, iI_and, iI_or, iI_xor, iI_shl, iI_shr, iI_ushr, iI_div, iI_b, iI_c, iI_i2l, lI_l2i, lI_add, lI_sub, lI_mul, lI_neg, lI_div, lI_or, lI_and, lI_shl, lI_shr, nI_iI, lg_lt0, lg_gt0, lg_eq0, i_ne0', l_ne0', iI_lt, iI_le, iI_eq, lI_lt, lI_le, lI_eq, zb_0, zb_fit, zb_fit0, zb_fit1, i_one_zero, i_w_in, z_tb0, z_tb1, z_tb2, z_tb3, z_tb4, z_tb5, z_tb6, z_tb7, z_tb8, z_tbl, z_tu0, z_tu1, z_tu2, z_i_62, z_i_63, z_i_86, z_i_88, z_l_Y, z_ui_62, z_ui_63, z_ui_86, z_ui_88, z_ul_Y, z_sz_Y, z_sw_Y, iI_nat, z_ix_t, z_at, Int.add_zero, Int.sub_zero, Int.zero_add, Int.mul_zero, ne_eq, Bool.false_eq_true, Bool.true_eq_false, reduceCtorEq, eq_self, and_true, true_and, and_false, false_and, and_self, not_true_eq_false, not_false_eq_true, decide_true, decide_false, ↓reduceIte, Int.reduceEq, Int.reduceNe, Int.reduceLT, Int.reduceLE, Int.reduceAdd, Int.reduceSub, Int.reduceMul, Int.reduceNeg, Nat.reduceAdd, Nat.reduceEqDiff, Nat.reduceBEq, ↓z_x_eq, z_g_t, z_bI_s, z_bL_s, z_bR_s, z_bV_s, Int.cast_ofNat_Int, beq_self_eq_true, Bool.and_true, Bool.true_and, Bool.and_self, Bool.or_true, Bool.true_or, Bool.false_and, Bool.and_false, Bool.false_or, Bool.or_false, Bool.not_false, Bool.not_true, if_true, if_false, ite_true, ite_false, z_up_eq, z_up_app, z_ro_eq, h18, zb_f, e1, y1']
    | true =>
      have ej : j_st e (n_K B L) (n_V B L) (j_nm q) (P, true, j, C) = j_be e (n_K B L) P j C := rfl
      rw [ej] at hg' iv
      rcases p_behind (T := T) (s := s) (E := E) hE hB ht hw hN h hv with ⟨S, eS, G', s', e1, n1⟩ | ⟨e1, eS⟩
      · rw [eS] at hg' iv
        have r := ih S.1 S.2.1 S.2.2.1 S.2.2.2 x G' s' hg' n1 (iv S rfl)
        have em : z_w d_M_parsed (z_call E) 20 [some (vr 80), some (vi (iI (zb e))), none] [] (z_Y T G s) = z_w d_M_parsed (z_call E) 20 [some (vr 80), some (vi (iI (zb e))), none] [] (z_Y T G' s') := by
          rw [e_M_parsed_20]
          simp -implicitDefEqProofs (disch := first | assumption | omega | rfl | (simp only [z_up_eq, z_up_app, ↓reduceIte, Nat.reduceEqDiff]; omega)) only [z_lit0, z_lit1, z_lit2, z_litl, iI_add, iI_sub, iI_mul, iI_neg, iI_and, iI_or, iI_xor, iI_shl, iI_shr, iI_ushr, iI_div, iI_b, iI_c, iI_i2l, lI_l2i, lI_add, lI_sub, lI_mul, lI_neg, lI_div, lI_or, lI_and, lI_shl, lI_shr, nI_iI, lg_lt0, lg_gt0, lg_eq0, i_ne0', l_ne0', iI_lt, iI_le, iI_eq, lI_lt, lI_le, lI_eq, zb_0, zb_fit, zb_fit0, zb_fit1, i_one_zero, i_w_in, z_tb0, z_tb1, z_tb2, z_tb3, z_tb4, z_tb5, z_tb6, z_tb7, z_tb8, z_tbl, z_tu0, z_tu1, z_tu2, z_i_62, z_i_63, z_i_86, z_i_88, z_l_Y, z_ui_62, z_ui_63, z_ui_86, z_ui_88, z_ul_Y, z_sz_Y, z_sw_Y, iI_nat, z_ix_t, z_at, Int.add_zero, Int.sub_zero, Int.zero_add, Int.mul_zero, ne_eq, Bool.false_eq_true, Bool.true_eq_false, reduceCtorEq, eq_self, and_true, true_and, and_false, false_and, and_self, not_true_eq_false, not_false_eq_true, decide_true, decide_false, ↓reduceIte, Int.reduceEq, Int.reduceNe, Int.reduceLT, Int.reduceLE, Int.reduceAdd, Int.reduceSub, Int.reduceMul, Int.reduceNeg, Nat.reduceAdd, Nat.reduceEqDiff, Nat.reduceBEq, ↓z_x_eq, z_g_t, z_bI_s, z_bL_s, z_bR_s, z_bV_s, Int.cast_ofNat_Int, beq_self_eq_true, Bool.and_true, Bool.true_and, Bool.and_self, Bool.or_true, Bool.true_or, Bool.false_and, Bool.and_false, Bool.false_or, Bool.or_false, Bool.not_false, Bool.not_true, if_true, if_false, ite_true, ite_false, z_up_eq, z_up_app, z_ro_eq, h18, zb_t, e1]
        rw [em]; exact r
      · rw [eS] at hg'
        obtain ⟨v1, v2, v3, v4, v5⟩ := hv
        have hl := n_len160 v2 v3
        have op := p_open (T := T) (s := s) (E := E) (by omega) h.1.2.1.1 h.2.1 v1 (by omega)
        have cm := p_cmp (T := T) (s := s) (E := E) (by omega) h.1.2.1.1 h.2.1 v1 (by omega)
        have oi := n_op_in v1
        by_cases c : 0 ≤ j_op P ∨ (e = true ∧ j_cm P = false)
        · rw [if_pos c] at hg'
          have hx : (1, j, []) = x := Option.some.inj hg'
          subst hx
          refine ⟨⟨by show (0 : Int) ≤ 1; decide, by show (1 : Int) ≤ 6; decide⟩, P, true, C, G, s, ?_, by omega, fun z => (by cases z), h⟩
          rw [e_M_parsed_20]
          by_cases c2 : 0 ≤ j_op P
          · have c2' : (j_op P < 0) = False := eq_false (by omega)
            simp -implicitDefEqProofs (disch := first | assumption | omega | rfl | (simp only [z_up_eq, z_up_app, ↓reduceIte, Nat.reduceEqDiff]; omega)) only [z_lit0, z_lit1, z_lit2, z_litl, iI_add, iI_sub, iI_mul, iI_neg, iI_and, iI_or, iI_xor, iI_shl, iI_shr, iI_ushr, iI_div, iI_b, iI_c, iI_i2l, lI_l2i, lI_add, lI_sub, lI_mul, lI_neg, lI_div, lI_or, lI_and, lI_shl, lI_shr, nI_iI, lg_lt0, lg_gt0, lg_eq0, i_ne0', l_ne0', iI_lt, iI_le, iI_eq, lI_lt, lI_le, lI_eq, zb_0, zb_fit, zb_fit0, zb_fit1, i_one_zero, i_w_in, z_tb0, z_tb1, z_tb2, z_tb3, z_tb4, z_tb5, z_tb6, z_tb7, z_tb8, z_tbl, z_tu0, z_tu1, z_tu2, z_i_62, z_i_63, z_i_86, z_i_88, z_l_Y, z_ui_62, z_ui_63, z_ui_86, z_ui_88, z_ul_Y, z_sz_Y, z_sw_Y, iI_nat, z_ix_t, z_at, Int.add_zero, Int.sub_zero, Int.zero_add, Int.mul_zero, ne_eq, Bool.false_eq_true, Bool.true_eq_false, reduceCtorEq, eq_self, and_true, true_and, and_false, false_and, and_self, not_true_eq_false, not_false_eq_true, decide_true, decide_false, ↓reduceIte, Int.reduceEq, Int.reduceNe, Int.reduceLT, Int.reduceLE, Int.reduceAdd, Int.reduceSub, Int.reduceMul, Int.reduceNeg, Nat.reduceAdd, Nat.reduceEqDiff, Nat.reduceBEq, ↓z_x_eq, z_g_t, z_bI_s, z_bL_s, z_bR_s, z_bV_s, Int.cast_ofNat_Int, beq_self_eq_true, Bool.and_true, Bool.true_and, Bool.and_self, Bool.or_true, Bool.true_or, Bool.false_and, Bool.and_false, Bool.false_or, Bool.or_false, Bool.not_false, Bool.not_true, if_true, if_false, ite_true, ite_false, z_up_eq, z_up_app, z_ro_eq, h18, zb_t, e1, op, c2']
          · have c2' : (j_op P < 0) = True := eq_true (by omega)
            have c3 : e = true ∧ j_cm P = false := by
              rcases c with c | c
              · exact absurd c c2
              · exact c
            rw [c3.2] at cm
            rw [c3.1]
            simp -implicitDefEqProofs (disch := first | assumption | omega | rfl | (simp only [z_up_eq, z_up_app, ↓reduceIte, Nat.reduceEqDiff]; omega)) only [z_lit0, z_lit1, z_lit2, z_litl, iI_add, iI_sub, iI_mul, iI_neg, iI_and, iI_or, iI_xor, iI_shl, iI_shr, iI_ushr, iI_div, iI_b, iI_c, iI_i2l, lI_l2i, lI_add, lI_sub, lI_mul, lI_neg, lI_div, lI_or, lI_and, lI_shl, lI_shr, nI_iI, lg_lt0, lg_gt0, lg_eq0, i_ne0', l_ne0', iI_lt, iI_le, iI_eq, lI_lt, lI_le, lI_eq, zb_0, zb_fit, zb_fit0, zb_fit1, i_one_zero, i_w_in, z_tb0, z_tb1, z_tb2, z_tb3, z_tb4, z_tb5, z_tb6, z_tb7, z_tb8, z_tbl, z_tu0, z_tu1, z_tu2, z_i_62, z_i_63, z_i_86, z_i_88, z_l_Y, z_ui_62, z_ui_63, z_ui_86, z_ui_88, z_ul_Y, z_sz_Y, z_sw_Y, iI_nat, z_ix_t, z_at, Int.add_zero, Int.sub_zero, Int.zero_add, Int.mul_zero, ne_eq, Bool.false_eq_true, Bool.true_eq_false, reduceCtorEq, eq_self, and_true, true_and, and_false, false_and, and_self, not_true_eq_false, not_false_eq_true, decide_true, decide_false, ↓reduceIte, Int.reduceEq, Int.reduceNe, Int.reduceLT, Int.reduceLE, Int.reduceAdd, Int.reduceSub, Int.reduceMul, Int.reduceNeg, Nat.reduceAdd, Nat.reduceEqDiff, Nat.reduceBEq, ↓z_x_eq, z_g_t, z_bI_s, z_bL_s, z_bR_s, z_bV_s, Int.cast_ofNat_Int, beq_self_eq_true, Bool.and_true, Bool.true_and, Bool.and_self, Bool.or_true, Bool.true_or, Bool.false_and, Bool.and_false, Bool.false_or, Bool.or_false, Bool.not_false, Bool.not_true, if_true, if_false, ite_true, ite_false, z_up_eq, z_up_app, z_ro_eq, h18, zb_t, e1, op, c2', cm, zb_f]
        · rw [if_neg c] at hg'
          have hx : (0, j, (j_set 1 P C).2) = x := Option.some.inj hg'
          subst hx
          obtain ⟨G1, e2, n1⟩ := p_settle (T := T) (s := s) (E := E) (by omega) ht hw (r := 1) (by omega) h v1 (by omega) (by omega)
          have ns := n_set (r := 1) (by omega) P C v1 v2
          refine ⟨⟨by show (0 : Int) ≤ 0; decide, by show (0 : Int) ≤ 6; decide⟩, _, _, _, G1, s, ?_, by show w0 + ((j_set 1 P C).2.length : Int) ≤ 300; omega, fun _ => rfl, n1⟩
          have c2' : (j_op P < 0) = True := eq_true (by omega)
          rw [e_M_parsed_20]
          cases e with
          | false => simp -implicitDefEqProofs (disch := first | assumption | omega | rfl | (simp only [z_up_eq, z_up_app, ↓reduceIte, Nat.reduceEqDiff]; omega)) only [z_lit0, z_lit1, z_lit2, z_litl, iI_add, iI_sub, iI_mul, iI_neg, iI_and, iI_or, iI_xor, iI_shl, iI_shr, iI_ushr, iI_div, iI_b, iI_c, iI_i2l, lI_l2i, lI_add, lI_sub, lI_mul, lI_neg, lI_div, lI_or, lI_and, lI_shl, lI_shr, nI_iI, lg_lt0, lg_gt0, lg_eq0, i_ne0', l_ne0', iI_lt, iI_le, iI_eq, lI_lt, lI_le, lI_eq, zb_0, zb_fit, zb_fit0, zb_fit1, i_one_zero, i_w_in, z_tb0, z_tb1, z_tb2, z_tb3, z_tb4, z_tb5, z_tb6, z_tb7, z_tb8, z_tbl, z_tu0, z_tu1, z_tu2, z_i_62, z_i_63, z_i_86, z_i_88, z_l_Y, z_ui_62, z_ui_63, z_ui_86, z_ui_88, z_ul_Y, z_sz_Y, z_sw_Y, iI_nat, z_ix_t, z_at, Int.add_zero, Int.sub_zero, Int.zero_add, Int.mul_zero, ne_eq, Bool.false_eq_true, Bool.true_eq_false, reduceCtorEq, eq_self, and_true, true_and, and_false, false_and, and_self, not_true_eq_false, not_false_eq_true, decide_true, decide_false, ↓reduceIte, Int.reduceEq, Int.reduceNe, Int.reduceLT, Int.reduceLE, Int.reduceAdd, Int.reduceSub, Int.reduceMul, Int.reduceNeg, Nat.reduceAdd, Nat.reduceEqDiff, Nat.reduceBEq, ↓z_x_eq, z_g_t, z_bI_s, z_bL_s, z_bR_s, z_bV_s, Int.cast_ofNat_Int, beq_self_eq_true, Bool.and_true, Bool.true_and, Bool.and_self, Bool.or_true, Bool.true_or, Bool.false_and, Bool.and_false, Bool.false_or, Bool.or_false, Bool.not_false, Bool.not_true, if_true, if_false, ite_true, ite_false, z_up_eq, z_up_app, z_ro_eq, h18, zb_t, zb_f, e1, op, c2', e2]
          | true =>
            have c3 : j_cm P = true := by
              cases z : j_cm P
              · exact absurd (Or.inr ⟨rfl, z⟩) c
              · rfl
            rw [c3] at cm
            simp -implicitDefEqProofs (disch := first | assumption | omega | rfl | (simp only [z_up_eq, z_up_app, ↓reduceIte, Nat.reduceEqDiff]; omega)) only [z_lit0, z_lit1, z_lit2, z_litl, iI_add, iI_sub, iI_mul, iI_neg, iI_and, iI_or, iI_xor, iI_shl, iI_shr, iI_ushr, iI_div, iI_b, iI_c, iI_i2l, lI_l2i, lI_add, lI_sub, lI_mul, lI_neg, lI_div, lI_or, lI_and, lI_shl, lI_shr, nI_iI, lg_lt0, lg_gt0, lg_eq0, i_ne0', l_ne0', iI_lt, iI_le, iI_eq, lI_lt, lI_le, lI_eq, zb_0, zb_fit, zb_fit0, zb_fit1, i_one_zero, i_w_in, z_tb0, z_tb1, z_tb2, z_tb3, z_tb4, z_tb5, z_tb6, z_tb7, z_tb8, z_tbl, z_tu0, z_tu1, z_tu2, z_i_62, z_i_63, z_i_86, z_i_88, z_l_Y, z_ui_62, z_ui_63, z_ui_86, z_ui_88, z_ul_Y, z_sz_Y, z_sw_Y, iI_nat, z_ix_t, z_at, Int.add_zero, Int.sub_zero, Int.zero_add, Int.mul_zero, ne_eq, Bool.false_eq_true, Bool.true_eq_false, reduceCtorEq, eq_self, and_true, true_and, and_false, false_and, and_self, not_true_eq_false, not_false_eq_true, decide_true, decide_false, ↓reduceIte, Int.reduceEq, Int.reduceNe, Int.reduceLT, Int.reduceLE, Int.reduceAdd, Int.reduceSub, Int.reduceMul, Int.reduceNeg, Nat.reduceAdd, Nat.reduceEqDiff, Nat.reduceBEq, ↓z_x_eq, z_g_t, z_bI_s, z_bL_s, z_bR_s, z_bV_s, Int.cast_ofNat_Int, beq_self_eq_true, Bool.and_true, Bool.true_and, Bool.and_self, Bool.or_true, Bool.true_or, Bool.false_and, Bool.and_false, Bool.false_or, Bool.or_false, Bool.not_false, Bool.not_true, if_true, if_false, ite_true, ite_false, z_up_eq, z_up_app, z_ro_eq, h18, zb_t, e1, op, c2', cm, e2]
end

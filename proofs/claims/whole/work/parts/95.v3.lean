/-! THE PURE PART, 86: the class's parser: asks and what joins them -/
section
variable {T : ZT} {G : ZG} {s : ZG × ZG} {K V X : Nat → Int} {N : Nat}
theorem q_cpk {k : Int} (h : 0 ≤ j_cp k) : t_enc (j_cp k) 0 = k ∧ (8 ≤ k ∧ k ≤ 11 ∨ k = 16 ∨ k = 17) := by
  unfold j_cp at h ⊢
  by_cases c1 : k = 8
  · rw [if_pos c1]; exact ⟨by rw [c1]; rfl, by omega⟩
  rw [if_neg c1] at h ⊢
  by_cases c2 : k = 16
  · rw [if_pos c2]; exact ⟨by rw [c2]; rfl, by omega⟩
  rw [if_neg c2] at h ⊢
  by_cases c3 : k = 9
  · rw [if_pos c3]; exact ⟨by rw [c3]; rfl, by omega⟩
  rw [if_neg c3] at h ⊢
  by_cases c4 : k = 17
  · rw [if_pos c4]; exact ⟨by rw [c4]; rfl, by omega⟩
  rw [if_neg c4] at h ⊢
  by_cases c5 : k = 10
  · rw [if_pos c5]; exact ⟨by rw [c5]; rfl, by omega⟩
  rw [if_neg c5] at h ⊢
  by_cases c6 : k = 11
  · rw [if_pos c6]; exact ⟨by rw [c6]; rfl, by omega⟩
  · rw [if_neg c6] at h; omega
theorem q_cpn {k : Int} (h : ¬ 0 ≤ j_cp k) : ¬ (8 ≤ k ∧ k ≤ 11) ∧ k ≠ 16 ∧ k ≠ 17 := by
  refine ⟨fun z => ?_, fun z => ?_, fun z => ?_⟩
  · have : k = 8 ∨ k = 9 ∨ k = 10 ∨ k = 11 := by omega
    rcases this with e | e | e | e <;> rw [e] at h <;> exact h (by decide)
  · rw [z] at h; exact h (by decide)
  · rw [z] at h; exact h (by decide)
theorem p_ask {q : Int} (hT : q_tk G K V X N) (hl : G 56 7 = 28 + q) (hq : 0 ≤ q ∧ q ≤ 2) : ∀ (r E : Nat) (dp : Int), 3 * r + 7 ≤ E → (0 ≤ dp ∧ dp + r = 8) → ∀ (j : Nat) (C : List (Int × Int)), j ≤ N → C.length ≤ j → q_rs T s G K V X (j_ask K V (j_nm q) r j) C (z_call E 67 [vr 56, vi (iI dp)] (z_Y T (q_G G K V j C) s)) := by
  have plain : ∀ (r E : Nat) (dp : Int), 3 * r + 7 ≤ E → (0 ≤ dp ∧ dp + r = 8) → ∀ (j : Nat) (C : List (Int × Int)), j ≤ N → C.length ≤ j → K j ≠ 43 → q_rs T s G K V X (j_ask K V (j_nm q) r j) C (z_call E 67 [vr 56, vi (iI dp)] (z_Y T (q_G G K V j C) s)) := by
    intro r E dp hE hd j C hj hC h43
    obtain ⟨d, rfl⟩ : ∃ d, E = d + 2 + 1 := ⟨E - 3, by omega⟩
    have sm := p_sm (T := T) (s := s) (E := d) (dp := dp) (by omega) hT (p_one hT hl hq r d dp (by omega) (by omega))
    have pg1 := j_one_pg (K := K) (V := V) (nm := j_nm q) hT.1 hT.2.1 r
    have pgs := (j_sm_pg hT.1 hT.2.1 pg1).1
    have hN := hT.1
    have b := hT.2.2.2 j
    have n43 : (K j = 43) = False := eq_false h43
    rw [j_ask_eq r j h43]
    have h1 := sm j C hj hC
    have p1 := pgs j
    generalize j_sm K (j_one K V (j_nm q) r) j = x at *
    by_cases z : x.1 = 0
    · have e1 := h1.1 z
      have p := p1 z
      rw [q_bd0 z]
      try dsimp only
      have b1 := hT.2.2.2 x.2.1
      have w := p_within (d + 1) (a := K x.2.1) (b := 8) (c := 11) (z_Y T (q_G G K V x.2.1 (C ++ x.2.2)) s) ⟨⟨by omega, by omega⟩, ⟨by omega, by omega⟩, ⟨by omega, by omega⟩⟩
      by_cases z2 : 0 ≤ j_cp (K x.2.1)
      · rw [if_pos z2]
        have ck := q_cpk z2
        have jl := q_lt hT (show K x.2.1 ≠ 0 by omega)
        have nx := p_rnext (T := T) (s := s) (C := C ++ x.2.2) (E := d + 2) (by omega) hT (show K x.2.1 ≠ 0 by omega)
        have h2 := sm (x.2.1 + 1) (C ++ x.2.2) (by omega) (by rw [List.length_append]; omega)
        have p2 := pgs (x.2.1 + 1)
        have way : ∀ P : ZR → Prop, P (z_g (z_kd (z_Y T (q_G G K V (x.2.1 + 1) (C ++ x.2.2)) s) 56 == 7) (z_bI (z_call (d + 2) 66 [vr 56, vi (iI dp)] (z_Y T (q_G G K V (x.2.1 + 1) (C ++ x.2.2)) s)) (fun v9 σ8 => if v9 = 0 then some (vi (0 : Int32), σ8) else z_g (z_kd σ8 56 == 7) (z_bI (z_call (d + 2) 62 [vr 56, vi (iI (K x.2.1))] σ8) (fun v11 σ10 => if v11 = 0 then some (vi (0 : Int32), σ10) else some (vi (1 : Int32), σ10)))))) → P (z_call (d + 2 + 1) 67 [vr 56, vi (iI dp)] (z_Y T (q_G G K V j C) s)) := by
          intro P hP
          have e : z_call (d + 2 + 1) 67 [vr 56, vi (iI dp)] (z_Y T (q_G G K V j C) s) = z_g (z_kd (z_Y T (q_G G K V (x.2.1 + 1) (C ++ x.2.2)) s) 56 == 7) (z_bI (z_call (d + 2) 66 [vr 56, vi (iI dp)] (z_Y T (q_G G K V (x.2.1 + 1) (C ++ x.2.2)) s)) (fun v9 σ8 => if v9 = 0 then some (vi (0 : Int32), σ8) else z_g (z_kd σ8 56 == 7) (z_bI (z_call (d + 2) 62 [vr 56, vi (iI (K x.2.1))] σ8) (fun v11 σ10 => if v11 = 0 then some (vi (0 : Int32), σ10) else some (vi (1 : Int32), σ10))))) := by
            rw [e_Re_readAsk]
            by_cases z3 : 8 ≤ K x.2.1 ∧ K x.2.1 ≤ 11
            · rw [decide_eq_true z3] at w
              simp -implicitDefEqProofs (disch := first | assumption | omega | rfl | (simp only [z_up_eq, z_up_app, ↓reduceIte, Nat.reduceEqDiff]; omega)) only [z_lit0, z_lit1, z_lit2, z_litl, iI_add, iI_sub, iI_mul, iI_neg, iI_and, iI_or, iI_xor, iI_shl, iI_shr, iI_ushr, iI_div, iI_b, iI_c, iI_i2l, lI_l2i, lI_add, lI_sub, lI_mul, lI_neg, lI_div, lI_or, lI_and, lI_shl, lI_shr, nI_iI, lg_lt0, lg_gt0, lg_eq0, i_ne0', l_ne0', iI_lt, iI_le, iI_eq, lI_lt, lI_le, lI_eq, zb_0, zb_fit, zb_fit0, zb_fit1, i_one_zero, i_w_in, z_tb0, z_tb1, z_tb2, z_tb3, z_tb4, z_tb5, z_tb6, z_tb7, z_tb8, z_tbl, z_tu0, z_tu1, z_tu2, z_i_62, z_i_63, z_i_86, z_i_88, z_l_Y, z_ui_62, z_ui_63, z_ui_86, z_ui_88, z_ul_Y, z_sz_Y, z_sw_Y, iI_nat, z_ix_t, z_at, Int.add_zero, Int.sub_zero, Int.zero_add, Int.mul_zero, ne_eq, Bool.false_eq_true, Bool.true_eq_false, reduceCtorEq, eq_self, and_true, true_and, and_false, false_and, and_self, not_true_eq_false, not_false_eq_true, decide_true, decide_false, ↓reduceIte, Int.reduceEq, Int.reduceNe, Int.reduceLT, Int.reduceLE, Int.reduceAdd, Int.reduceSub, Int.reduceMul, Int.reduceNeg, Nat.reduceAdd, Nat.reduceEqDiff, Nat.reduceBEq, ↓z_x_eq, z_g_t, z_bI_s, z_bL_s, z_bR_s, z_bV_s, Int.cast_ofNat_Int, beq_self_eq_true, Bool.and_true, Bool.true_and, Bool.and_self, Bool.or_true, Bool.true_or, Bool.false_and, Bool.and_false, Bool.false_or, Bool.or_false, Bool.not_false, Bool.not_true, if_true, if_false, ite_true, ite_false, z_up_eq, z_up_app, z_ro_eq, q_G_k, n43, e1, w, zb_t, nx]
            · rw [decide_eq_false z3] at w
              by_cases z4 : K x.2.1 = 16
              · have z4' : (K x.2.1 = 16) = True := eq_true z4
                simp -implicitDefEqProofs (disch := first | assumption | omega | rfl | (simp only [z_up_eq, z_up_app, ↓reduceIte, Nat.reduceEqDiff]; omega)) only [z_lit0, z_lit1, z_lit2, z_litl, iI_add, iI_sub, iI_mul, iI_neg, iI_and, iI_or, iI_xor, iI_shl, iI_shr, iI_ushr, iI_div, iI_b, iI_c, iI_i2l, lI_l2i, lI_add, lI_sub, lI_mul, lI_neg, lI_div, lI_or, lI_and, lI_shl, lI_shr, nI_iI, lg_lt0, lg_gt0, lg_eq0, i_ne0', l_ne0', iI_lt, iI_le, iI_eq, lI_lt, lI_le, lI_eq, zb_0, zb_fit, zb_fit0, zb_fit1, i_one_zero, i_w_in, z_tb0, z_tb1, z_tb2, z_tb3, z_tb4, z_tb5, z_tb6, z_tb7, z_tb8, z_tbl, z_tu0, z_tu1, z_tu2, z_i_62, z_i_63, z_i_86, z_i_88, z_l_Y, z_ui_62, z_ui_63, z_ui_86, z_ui_88, z_ul_Y, z_sz_Y, z_sw_Y, iI_nat, z_ix_t, z_at, Int.add_zero, Int.sub_zero, Int.zero_add, Int.mul_zero, ne_eq, Bool.false_eq_true, Bool.true_eq_false, reduceCtorEq, eq_self, and_true, true_and, and_false, false_and, and_self, not_true_eq_false, not_false_eq_true, decide_true, decide_false, ↓reduceIte, Int.reduceEq, Int.reduceNe, Int.reduceLT, Int.reduceLE, Int.reduceAdd, Int.reduceSub, Int.reduceMul, Int.reduceNeg, Nat.reduceAdd, Nat.reduceEqDiff, Nat.reduceBEq, ↓z_x_eq, z_g_t, z_bI_s, z_bL_s, z_bR_s, z_bV_s, Int.cast_ofNat_Int, beq_self_eq_true, Bool.and_true, Bool.true_and, Bool.and_self, Bool.or_true, Bool.true_or, Bool.false_and, Bool.and_false, Bool.false_or, Bool.or_false, Bool.not_false, Bool.not_true, if_true, if_false, ite_true, ite_false, z_up_eq, z_up_app, z_ro_eq, q_G_k, n43, e1, w, zb_f, z4', nx]
              · have z4' : (K x.2.1 = 16) = False := eq_false z4
                have z5' : (K x.2.1 = 17) = True := eq_true (by omega)
                simp -implicitDefEqProofs (disch := first | assumption | omega | rfl | (simp only [z_up_eq, z_up_app, ↓reduceIte, Nat.reduceEqDiff]; omega)) only [z_lit0, z_lit1, z_lit2, z_litl, iI_add, iI_sub, iI_mul, iI_neg, iI_and, iI_or, iI_xor, iI_shl, iI_shr, iI_ushr, iI_div, iI_b, iI_c, iI_i2l, lI_l2i, lI_add, lI_sub, lI_mul, lI_neg, lI_div, lI_or, lI_and, lI_shl, lI_shr, nI_iI, lg_lt0, lg_gt0, lg_eq0, i_ne0', l_ne0', iI_lt, iI_le, iI_eq, lI_lt, lI_le, lI_eq, zb_0, zb_fit, zb_fit0, zb_fit1, i_one_zero, i_w_in, z_tb0, z_tb1, z_tb2, z_tb3, z_tb4, z_tb5, z_tb6, z_tb7, z_tb8, z_tbl, z_tu0, z_tu1, z_tu2, z_i_62, z_i_63, z_i_86, z_i_88, z_l_Y, z_ui_62, z_ui_63, z_ui_86, z_ui_88, z_ul_Y, z_sz_Y, z_sw_Y, iI_nat, z_ix_t, z_at, Int.add_zero, Int.sub_zero, Int.zero_add, Int.mul_zero, ne_eq, Bool.false_eq_true, Bool.true_eq_false, reduceCtorEq, eq_self, and_true, true_and, and_false, false_and, and_self, not_true_eq_false, not_false_eq_true, decide_true, decide_false, ↓reduceIte, Int.reduceEq, Int.reduceNe, Int.reduceLT, Int.reduceLE, Int.reduceAdd, Int.reduceSub, Int.reduceMul, Int.reduceNeg, Nat.reduceAdd, Nat.reduceEqDiff, Nat.reduceBEq, ↓z_x_eq, z_g_t, z_bI_s, z_bL_s, z_bR_s, z_bV_s, Int.cast_ofNat_Int, beq_self_eq_true, Bool.and_true, Bool.true_and, Bool.and_self, Bool.or_true, Bool.true_or, Bool.false_and, Bool.and_false, Bool.false_or, Bool.or_false, Bool.not_false, Bool.not_true, if_true, if_false, ite_true, ite_false, z_up_eq, z_up_app, z_ro_eq, q_G_k, n43, e1, w, zb_f, z4', z5', nx]
          rw [e]; exact hP
        generalize j_sm K (j_one K V (j_nm q) r) (x.2.1 + 1) = y at *
        by_cases z3 : y.1 = 0
        · have e2 := h2.1 z3
          have p3 := p2 z3
          rw [q_bd0 z3]
          have em := p_remit (T := T) (s := s) (G := G) (K := K) (V := V) (j := y.2.1) (E := d + 2) (by omega) (C := C ++ x.2.2 ++ y.2.2) (by rw [List.length_append, List.length_append]; omega) (j_cp (K x.2.1)) 0
          rw [ck.1, show C ++ x.2.2 ++ y.2.2 ++ [(j_cp (K x.2.1), (0 : Int))] = C ++ (x.2.2 ++ y.2.2 ++ [(j_cp (K x.2.1), (0 : Int))]) by simp only [List.append_assoc]] at em
          refine way _ (q_rs_t ?_)
          simp -implicitDefEqProofs (disch := first | assumption | omega | rfl | (simp only [z_up_eq, z_up_app, ↓reduceIte, Nat.reduceEqDiff]; omega)) only [z_lit0, z_lit1, z_lit2, z_litl, iI_add, iI_sub, iI_mul, iI_neg, iI_and, iI_or, iI_xor, iI_shl, iI_shr, iI_ushr, iI_div, iI_b, iI_c, iI_i2l, lI_l2i, lI_add, lI_sub, lI_mul, lI_neg, lI_div, lI_or, lI_and, lI_shl, lI_shr, nI_iI, lg_lt0, lg_gt0, lg_eq0, i_ne0', l_ne0', iI_lt, iI_le, iI_eq, lI_lt, lI_le, lI_eq, zb_0, zb_fit, zb_fit0, zb_fit1, i_one_zero, i_w_in, z_tb0, z_tb1, z_tb2, z_tb3, z_tb4, z_tb5, z_tb6, z_tb7, z_tb8, z_tbl, z_tu0, z_tu1, z_tu2, z_i_62, z_i_63, z_i_86, z_i_88, z_l_Y, z_ui_62, z_ui_63, z_ui_86, z_ui_88, z_ul_Y, z_sz_Y, z_sw_Y, iI_nat, z_ix_t, z_at, Int.add_zero, Int.sub_zero, Int.zero_add, Int.mul_zero, ne_eq, Bool.false_eq_true, Bool.true_eq_false, reduceCtorEq, eq_self, and_true, true_and, and_false, false_and, and_self, not_true_eq_false, not_false_eq_true, decide_true, decide_false, ↓reduceIte, Int.reduceEq, Int.reduceNe, Int.reduceLT, Int.reduceLE, Int.reduceAdd, Int.reduceSub, Int.reduceMul, Int.reduceNeg, Nat.reduceAdd, Nat.reduceEqDiff, Nat.reduceBEq, ↓z_x_eq, z_g_t, z_bI_s, z_bL_s, z_bR_s, z_bV_s, Int.cast_ofNat_Int, beq_self_eq_true, Bool.and_true, Bool.true_and, Bool.and_self, Bool.or_true, Bool.true_or, Bool.false_and, Bool.and_false, Bool.false_or, Bool.or_false, Bool.not_false, Bool.not_true, if_true, if_false, ite_true, ite_false, z_up_eq, z_up_app, z_ro_eq, e2, em]
        · obtain ⟨C', e2⟩ := h2.2 z3
          rw [q_bd1 z3]
          refine way _ (q_rs_f (C' := C') z3 ?_)
          simp -implicitDefEqProofs (disch := first | assumption | omega | rfl | (simp only [z_up_eq, z_up_app, ↓reduceIte, Nat.reduceEqDiff]; omega)) only [z_lit0, z_lit1, z_lit2, z_litl, iI_add, iI_sub, iI_mul, iI_neg, iI_and, iI_or, iI_xor, iI_shl, iI_shr, iI_ushr, iI_div, iI_b, iI_c, iI_i2l, lI_l2i, lI_add, lI_sub, lI_mul, lI_neg, lI_div, lI_or, lI_and, lI_shl, lI_shr, nI_iI, lg_lt0, lg_gt0, lg_eq0, i_ne0', l_ne0', iI_lt, iI_le, iI_eq, lI_lt, lI_le, lI_eq, zb_0, zb_fit, zb_fit0, zb_fit1, i_one_zero, i_w_in, z_tb0, z_tb1, z_tb2, z_tb3, z_tb4, z_tb5, z_tb6, z_tb7, z_tb8, z_tbl, z_tu0, z_tu1, z_tu2, z_i_62, z_i_63, z_i_86, z_i_88, z_l_Y, z_ui_62, z_ui_63, z_ui_86, z_ui_88, z_ul_Y, z_sz_Y, z_sw_Y, iI_nat, z_ix_t, z_at, Int.add_zero, Int.sub_zero, Int.zero_add, Int.mul_zero, ne_eq, Bool.false_eq_true, Bool.true_eq_false, reduceCtorEq, eq_self, and_true, true_and, and_false, false_and, and_self, not_true_eq_false, not_false_eq_true, decide_true, decide_false, ↓reduceIte, Int.reduceEq, Int.reduceNe, Int.reduceLT, Int.reduceLE, Int.reduceAdd, Int.reduceSub, Int.reduceMul, Int.reduceNeg, Nat.reduceAdd, Nat.reduceEqDiff, Nat.reduceBEq, ↓z_x_eq, z_g_t, z_bI_s, z_bL_s, z_bR_s, z_bV_s, Int.cast_ofNat_Int, beq_self_eq_true, Bool.and_true, Bool.true_and, Bool.and_self, Bool.or_true, Bool.true_or, Bool.false_and, Bool.and_false, Bool.false_or, Bool.or_false, Bool.not_false, Bool.not_true, if_true, if_false, ite_true, ite_false, z_up_eq, z_up_app, z_ro_eq, e2]
      · rw [if_neg z2]
        have cn := q_cpn z2
        rw [decide_eq_false cn.1] at w
        have c16 : (K x.2.1 = 16) = False := eq_false cn.2.1
        have c17 : (K x.2.1 = 17) = False := eq_false cn.2.2
        have rf := p_rref (T := T) (s := s) (C := C ++ x.2.2) (E := d + 2) (by omega) hT p.2.1 1
        refine q_rs_f (C' := C ++ x.2.2) (by show (1 : Int) ≠ 0; decide) ?_
        rw [e_Re_readAsk]
        simp -implicitDefEqProofs (disch := first | assumption | omega | rfl | (simp only [z_up_eq, z_up_app, ↓reduceIte, Nat.reduceEqDiff]; omega)) only [z_lit0, z_lit1, z_lit2, z_litl, iI_add, iI_sub, iI_mul, iI_neg, iI_and, iI_or, iI_xor, iI_shl, iI_shr, iI_ushr, iI_div, iI_b, iI_c, iI_i2l, lI_l2i, lI_add, lI_sub, lI_mul, lI_neg, lI_div, lI_or, lI_and, lI_shl, lI_shr, nI_iI, lg_lt0, lg_gt0, lg_eq0, i_ne0', l_ne0', iI_lt, iI_le, iI_eq, lI_lt, lI_le, lI_eq, zb_0, zb_fit, zb_fit0, zb_fit1, i_one_zero, i_w_in, z_tb0, z_tb1, z_tb2, z_tb3, z_tb4, z_tb5, z_tb6, z_tb7, z_tb8, z_tbl, z_tu0, z_tu1, z_tu2, z_i_62, z_i_63, z_i_86, z_i_88, z_l_Y, z_ui_62, z_ui_63, z_ui_86, z_ui_88, z_ul_Y, z_sz_Y, z_sw_Y, iI_nat, z_ix_t, z_at, Int.add_zero, Int.sub_zero, Int.zero_add, Int.mul_zero, ne_eq, Bool.false_eq_true, Bool.true_eq_false, reduceCtorEq, eq_self, and_true, true_and, and_false, false_and, and_self, not_true_eq_false, not_false_eq_true, decide_true, decide_false, ↓reduceIte, Int.reduceEq, Int.reduceNe, Int.reduceLT, Int.reduceLE, Int.reduceAdd, Int.reduceSub, Int.reduceMul, Int.reduceNeg, Nat.reduceAdd, Nat.reduceEqDiff, Nat.reduceBEq, ↓z_x_eq, z_g_t, z_bI_s, z_bL_s, z_bR_s, z_bV_s, Int.cast_ofNat_Int, beq_self_eq_true, Bool.and_true, Bool.true_and, Bool.and_self, Bool.or_true, Bool.true_or, Bool.false_and, Bool.and_false, Bool.false_or, Bool.or_false, Bool.not_false, Bool.not_true, if_true, if_false, ite_true, ite_false, z_up_eq, z_up_app, z_ro_eq, q_G_k, n43, e1, w, zb_f, c16, c17, rf]
    · obtain ⟨C', e1⟩ := h1.2 z
      rw [q_bd1 z]
      refine q_rs_f (C' := C') z ?_
      rw [e_Re_readAsk]
      simp -implicitDefEqProofs (disch := first | assumption | omega | rfl | (simp only [z_up_eq, z_up_app, ↓reduceIte, Nat.reduceEqDiff]; omega)) only [z_lit0, z_lit1, z_lit2, z_litl, iI_add, iI_sub, iI_mul, iI_neg, iI_and, iI_or, iI_xor, iI_shl, iI_shr, iI_ushr, iI_div, iI_b, iI_c, iI_i2l, lI_l2i, lI_add, lI_sub, lI_mul, lI_neg, lI_div, lI_or, lI_and, lI_shl, lI_shr, nI_iI, lg_lt0, lg_gt0, lg_eq0, i_ne0', l_ne0', iI_lt, iI_le, iI_eq, lI_lt, lI_le, lI_eq, zb_0, zb_fit, zb_fit0, zb_fit1, i_one_zero, i_w_in, z_tb0, z_tb1, z_tb2, z_tb3, z_tb4, z_tb5, z_tb6, z_tb7, z_tb8, z_tbl, z_tu0, z_tu1, z_tu2, z_i_62, z_i_63, z_i_86, z_i_88, z_l_Y, z_ui_62, z_ui_63, z_ui_86, z_ui_88, z_ul_Y, z_sz_Y, z_sw_Y, iI_nat, z_ix_t, z_at, Int.add_zero, Int.sub_zero, Int.zero_add, Int.mul_zero, ne_eq, Bool.false_eq_true, Bool.true_eq_false, reduceCtorEq, eq_self, and_true, true_and, and_false, false_and, and_self, not_true_eq_false, not_false_eq_true, decide_true, decide_false, ↓reduceIte, Int.reduceEq, Int.reduceNe, Int.reduceLT, Int.reduceLE, Int.reduceAdd, Int.reduceSub, Int.reduceMul, Int.reduceNeg, Nat.reduceAdd, Nat.reduceEqDiff, Nat.reduceBEq, ↓z_x_eq, z_g_t, z_bI_s, z_bL_s, z_bR_s, z_bV_s, Int.cast_ofNat_Int, beq_self_eq_true, Bool.and_true, Bool.true_and, Bool.and_self, Bool.or_true, Bool.true_or, Bool.false_and, Bool.and_false, Bool.false_or, Bool.or_false, Bool.not_false, Bool.not_true, if_true, if_false, ite_true, ite_false, z_up_eq, z_up_app, z_ro_eq, q_G_k, n43, e1]
  intro r
  induction r with
  | zero =>
    intro E dp hE hd j C hj hC
    by_cases h : K j = 43
    · have e1 : j_ask K V (j_nm q) 0 j = (3, j, []) := if_pos h
      rw [e1]
      obtain ⟨d, rfl⟩ : ∃ d, E = d + 1 := ⟨E - 1, by omega⟩
      have c43 : (K j = 43) = True := eq_true h
      have c8 : (dp < 8) = False := eq_false (by omega)
      have rf := p_rref (T := T) (s := s) (C := C) (E := d) (by omega) hT hj 3
      refine q_rs_f (C' := C) (by show (3 : Int) ≠ 0; decide) ?_
      rw [e_Re_readAsk]
      simp -implicitDefEqProofs (disch := first | assumption | omega | rfl | (simp only [z_up_eq, z_up_app, ↓reduceIte, Nat.reduceEqDiff]; omega)) only [z_lit0, z_lit1, z_lit2, z_litl, iI_add, iI_sub, iI_mul, iI_neg, iI_and, iI_or, iI_xor, iI_shl, iI_shr, iI_ushr, iI_div, iI_b, iI_c, iI_i2l, lI_l2i, lI_add, lI_sub, lI_mul, lI_neg, lI_div, lI_or, lI_and, lI_shl, lI_shr, nI_iI, lg_lt0, lg_gt0, lg_eq0, i_ne0', l_ne0', iI_lt, iI_le, iI_eq, lI_lt, lI_le, lI_eq, zb_0, zb_fit, zb_fit0, zb_fit1, i_one_zero, i_w_in, z_tb0, z_tb1, z_tb2, z_tb3, z_tb4, z_tb5, z_tb6, z_tb7, z_tb8, z_tbl, z_tu0, z_tu1, z_tu2, z_i_62, z_i_63, z_i_86, z_i_88, z_l_Y, z_ui_62, z_ui_63, z_ui_86, z_ui_88, z_ul_Y, z_sz_Y, z_sw_Y, iI_nat, z_ix_t, z_at, Int.add_zero, Int.sub_zero, Int.zero_add, Int.mul_zero, ne_eq, Bool.false_eq_true, Bool.true_eq_false, reduceCtorEq, eq_self, and_true, true_and, and_false, false_and, and_self, not_true_eq_false, not_false_eq_true, decide_true, decide_false, ↓reduceIte, Int.reduceEq, Int.reduceNe, Int.reduceLT, Int.reduceLE, Int.reduceAdd, Int.reduceSub, Int.reduceMul, Int.reduceNeg, Nat.reduceAdd, Nat.reduceEqDiff, Nat.reduceBEq, ↓z_x_eq, z_g_t, z_bI_s, z_bL_s, z_bR_s, z_bV_s, Int.cast_ofNat_Int, beq_self_eq_true, Bool.and_true, Bool.true_and, Bool.and_self, Bool.or_true, Bool.true_or, Bool.false_and, Bool.and_false, Bool.false_or, Bool.or_false, Bool.not_false, Bool.not_true, if_true, if_false, ite_true, ite_false, z_up_eq, z_up_app, z_ro_eq, q_G_k, c43, c8, rf]
    · exact plain 0 E dp hE hd j C hj hC h
  | succ r ih =>
    intro E dp hE hd j C hj hC
    by_cases h : K j = 43
    · have e1 : j_ask K V (j_nm q) (r + 1) j = j_bd (j_ask K V (j_nm q) r (j + 1)) (fun j' D => (0, j', D ++ [(20, 0)])) := if_pos h
      rw [e1]
      obtain ⟨d, rfl⟩ : ∃ d, E = d + 1 := ⟨E - 1, by omega⟩
      have hN := hT.1
      have jl := q_lt hT (show K j ≠ 0 by omega)
      have c43 : (K j = 43) = True := eq_true h
      have c8 : (dp < 8) = True := eq_true (by omega)
      have nx := p_rnext (T := T) (s := s) (C := C) (E := d) (by omega) hT (show K j ≠ 0 by omega)
      have h1 := ih d (dp + 1) (by omega) (by omega) (j + 1) C (by omega) (by omega)
      have p1 := j_ask_pg (K := K) (V := V) (nm := j_nm q) hT.1 hT.2.1 r (j + 1)
      generalize j_ask K V (j_nm q) r (j + 1) = x at *
      by_cases z : x.1 = 0
      · have e2 := h1.1 z
        have p := p1 z
        rw [q_bd0 z]
        have em := p_remit (T := T) (s := s) (G := G) (K := K) (V := V) (j := x.2.1) (E := d) (by omega) (C := C ++ x.2.2) (by rw [List.length_append]; omega) 20 0
        rw [show t_enc 20 0 = 43 from rfl, List.append_assoc] at em
        refine q_rs_t ?_
        rw [e_Re_readAsk]
        simp -implicitDefEqProofs (disch := first | assumption | omega | rfl | (simp only [z_up_eq, z_up_app, ↓reduceIte, Nat.reduceEqDiff]; omega)) only [z_lit0, z_lit1, z_lit2, z_litl, iI_add, iI_sub, iI_mul, iI_neg, iI_and, iI_or, iI_xor, iI_shl, iI_shr, iI_ushr, iI_div, iI_b, iI_c, iI_i2l, lI_l2i, lI_add, lI_sub, lI_mul, lI_neg, lI_div, lI_or, lI_and, lI_shl, lI_shr, nI_iI, lg_lt0, lg_gt0, lg_eq0, i_ne0', l_ne0', iI_lt, iI_le, iI_eq, lI_lt, lI_le, lI_eq, zb_0, zb_fit, zb_fit0, zb_fit1, i_one_zero, i_w_in, z_tb0, z_tb1, z_tb2, z_tb3, z_tb4, z_tb5, z_tb6, z_tb7, z_tb8, z_tbl, z_tu0, z_tu1, z_tu2, z_i_62, z_i_63, z_i_86, z_i_88, z_l_Y, z_ui_62, z_ui_63, z_ui_86, z_ui_88, z_ul_Y, z_sz_Y, z_sw_Y, iI_nat, z_ix_t, z_at, Int.add_zero, Int.sub_zero, Int.zero_add, Int.mul_zero, ne_eq, Bool.false_eq_true, Bool.true_eq_false, reduceCtorEq, eq_self, and_true, true_and, and_false, false_and, and_self, not_true_eq_false, not_false_eq_true, decide_true, decide_false, ↓reduceIte, Int.reduceEq, Int.reduceNe, Int.reduceLT, Int.reduceLE, Int.reduceAdd, Int.reduceSub, Int.reduceMul, Int.reduceNeg, Nat.reduceAdd, Nat.reduceEqDiff, Nat.reduceBEq, ↓z_x_eq, z_g_t, z_bI_s, z_bL_s, z_bR_s, z_bV_s, Int.cast_ofNat_Int, beq_self_eq_true, Bool.and_true, Bool.true_and, Bool.and_self, Bool.or_true, Bool.true_or, Bool.false_and, Bool.and_false, Bool.false_or, Bool.or_false, Bool.not_false, Bool.not_true, if_true, if_false, ite_true, ite_false, z_up_eq, z_up_app, z_ro_eq, q_G_k, c43, c8, nx, e2, em]
      · obtain ⟨C', e2⟩ := h1.2 z
        rw [q_bd1 z]
        refine q_rs_f (C' := C') z ?_
        rw [e_Re_readAsk]
        simp -implicitDefEqProofs (disch := first | assumption | omega | rfl | (simp only [z_up_eq, z_up_app, ↓reduceIte, Nat.reduceEqDiff]; omega)) only [z_lit0, z_lit1, z_lit2, z_litl, iI_add, iI_sub, iI_mul, iI_neg, iI_and, iI_or, iI_xor, iI_shl, iI_shr, iI_ushr, iI_div, iI_b, iI_c, iI_i2l, lI_l2i, lI_add, lI_sub, lI_mul, lI_neg, lI_div, lI_or, lI_and, lI_shl, lI_shr, nI_iI, lg_lt0, lg_gt0, lg_eq0, i_ne0', l_ne0', iI_lt, iI_le, iI_eq, lI_lt, lI_le, lI_eq, zb_0, zb_fit, zb_fit0, zb_fit1, i_one_zero, i_w_in, z_tb0, z_tb1, z_tb2, z_tb3, z_tb4, z_tb5, z_tb6, z_tb7, z_tb8, z_tbl, z_tu0, z_tu1, z_tu2, z_i_62, z_i_63, z_i_86, z_i_88, z_l_Y, z_ui_62, z_ui_63, z_ui_86, z_ui_88, z_ul_Y, z_sz_Y, z_sw_Y, iI_nat, z_ix_t, z_at, Int.add_zero, Int.sub_zero, Int.zero_add, Int.mul_zero, ne_eq, Bool.false_eq_true, Bool.true_eq_false, reduceCtorEq, eq_self, and_true, true_and, and_false, false_and, and_self, not_true_eq_false, not_false_eq_true, decide_true, decide_false, ↓reduceIte, Int.reduceEq, Int.reduceNe, Int.reduceLT, Int.reduceLE, Int.reduceAdd, Int.reduceSub, Int.reduceMul, Int.reduceNeg, Nat.reduceAdd, Nat.reduceEqDiff, Nat.reduceBEq, ↓z_x_eq, z_g_t, z_bI_s, z_bL_s, z_bR_s, z_bV_s, Int.cast_ofNat_Int, beq_self_eq_true, Bool.and_true, Bool.true_and, Bool.and_self, Bool.or_true, Bool.true_or, Bool.false_and, Bool.and_false, Bool.false_or, Bool.or_false, Bool.not_false, Bool.not_true, if_true, if_false, ite_true, ite_false, z_up_eq, z_up_app, z_ro_eq, q_G_k, c43, c8, nx, e2]
    · exact plain (r + 1) E dp hE hd j C hj hC h
theorem p_eil {q : Int} {E : Nat} (hE : 31 ≤ E) (hT : q_tk G K V X N) (hl : G 56 7 = 28 + q) (hq : 0 ≤ q ∧ q ≤ 2) : ∀ (m j : Nat) (i : Int) (ei bo : Bool) (C : List (Int × Int)), 0 ≤ i → i + m = 300 → j ≤ N → C.length + zb ei + zb bo + 1 ≤ j → q_rs T s G K V X (j_ei K V (j_nm q) m j ei bo C) [] (z_w d_Re_readEither (z_call E) 6 [some (vr 56), some (vi (iI (zb ei))), some (vi (iI (zb bo))), some (vi (iI i))] [] (z_Y T (q_G G K V j C) s))
  | 0, j, i, ei, bo, C, h0, hm, hj, hC => by
    have c1 : (i < 300) = False := eq_false (by omega)
    have rf := p_rref (T := T) (s := s) (C := C) (E := E) (by omega) hT hj 1
    refine q_rs_f (x := (1, j, [])) (C' := C) (by show (1 : Int) ≠ 0; decide) ?_
    rw [e_Re_readEither_6]
    simp -implicitDefEqProofs (disch := first | assumption | omega | rfl | (simp only [z_up_eq, z_up_app, ↓reduceIte, Nat.reduceEqDiff]; omega)) only [z_lit0, z_lit1, z_lit2, z_litl, iI_add, iI_sub, iI_mul, iI_neg, iI_and, iI_or, iI_xor, iI_shl, iI_shr, iI_ushr, iI_div, iI_b, iI_c, iI_i2l, lI_l2i, lI_add, lI_sub, lI_mul, lI_neg, lI_div, lI_or, lI_and, lI_shl, lI_shr, nI_iI, lg_lt0, lg_gt0, lg_eq0, i_ne0', l_ne0', iI_lt, iI_le, iI_eq, lI_lt, lI_le, lI_eq, zb_0, zb_fit, zb_fit0, zb_fit1, i_one_zero, i_w_in, z_tb0, z_tb1, z_tb2, z_tb3, z_tb4, z_tb5, z_tb6, z_tb7, z_tb8, z_tbl, z_tu0, z_tu1, z_tu2, z_i_62, z_i_63, z_i_86, z_i_88, z_l_Y, z_ui_62, z_ui_63, z_ui_86, z_ui_88, z_ul_Y, z_sz_Y, z_sw_Y, iI_nat, z_ix_t, z_at, Int.add_zero, Int.sub_zero, Int.zero_add, Int.mul_zero, ne_eq, Bool.false_eq_true, Bool.true_eq_false, reduceCtorEq, eq_self, and_true, true_and, and_false, false_and, and_self, not_true_eq_false, not_false_eq_true, decide_true, decide_false, ↓reduceIte, Int.reduceEq, Int.reduceNe, Int.reduceLT, Int.reduceLE, Int.reduceAdd, Int.reduceSub, Int.reduceMul, Int.reduceNeg, Nat.reduceAdd, Nat.reduceEqDiff, Nat.reduceBEq, ↓z_x_eq, z_g_t, z_bI_s, z_bL_s, z_bR_s, z_bV_s, Int.cast_ofNat_Int, beq_self_eq_true, Bool.and_true, Bool.true_and, Bool.and_self, Bool.or_true, Bool.true_or, Bool.false_and, Bool.and_false, Bool.false_or, Bool.or_false, Bool.not_false, Bool.not_true, if_true, if_false, ite_true, ite_false, z_up_eq, z_up_app, z_ro_eq, c1, rf]
  | m + 1, j, i, ei, bo, C, h0, hm, hj, hC => by
    have c1 : (i < 300) = True := eq_true (by omega)
    have hN := hT.1
    have zi := zb_in ei
    have zo := zb_in bo
    have h1 := p_ask (T := T) (s := s) hT hl hq 8 E 0 (by omega) (by omega) j C hj (by omega)
    have p1 := j_ask_pg (K := K) (V := V) (nm := j_nm q) hT.1 hT.2.1 8 j
    unfold j_ei
    generalize j_ask K V (j_nm q) 8 j = x at *
    by_cases z : x.1 = 0
    · have e1 := h1.1 z
      have p := p1 z
      rw [q_bd0 z]
      try dsimp only
      have b := hT.2.2.2 x.2.1
      generalize hc : C ++ x.2.2 = C1 at *
      have lc : C1.length = C.length + x.2.2.length := by rw [← hc, List.length_append]
      have em42 := p_remit (T := T) (s := s) (G := G) (K := K) (V := V) (j := x.2.1) (E := E) (by omega) (C := C1) (by omega) 21 0
      rw [show t_enc 21 0 = 42 from rfl] at em42
      have em41 := p_remit (T := T) (s := s) (G := G) (K := K) (V := V) (j := x.2.1) (E := E) (by omega) (C := C1) (by omega) 22 0
      rw [show t_enc 22 0 = 41 from rfl] at em41
      have nx := fun C (h : K x.2.1 ≠ 0) => p_rnext (T := T) (s := s) (C := C) (E := E) (by omega) hT h
      by_cases k1 : K x.2.1 = 42
      · have k1' : (K x.2.1 = 42) = True := eq_true k1
        have jl := q_lt hT (show K x.2.1 ≠ 0 by omega)
        rw [if_pos k1]
        cases ei with
        | false =>
          cases bo with
          | false =>
            have nx' := nx (C1) (by omega)
            have ih := p_eil hE hT hl hq m (x.2.1 + 1) (i + 1) false true (C1) (by omega) (by omega) (by omega) (by simp only [zb_t, zb_f] at hC ⊢; omega)
            have e : z_w d_Re_readEither (z_call E) 6 [some (vr 56), some (vi (iI (zb false))), some (vi (iI (zb false))), some (vi (iI i))] [] (z_Y T (q_G G K V j C) s) = z_w d_Re_readEither (z_call E) 6 [some (vr 56), some (vi (iI (zb false))), some (vi (iI (zb true))), some (vi (iI (i + 1)))] [] (z_Y T (q_G G K V (x.2.1 + 1) (C1)) s) := by
              rw [e_Re_readEither_6]
              simp -implicitDefEqProofs (disch := first | assumption | omega | rfl | (simp only [z_up_eq, z_up_app, ↓reduceIte, Nat.reduceEqDiff]; omega)) only [z_lit0, z_lit1, z_lit2, z_litl, iI_add, iI_sub, iI_mul, iI_neg, iI_and, iI_or, iI_xor, iI_shl, iI_shr, iI_ushr, iI_div, iI_b, iI_c, iI_i2l, lI_l2i, lI_add, lI_sub, lI_mul, lI_neg, lI_div, lI_or, lI_and, lI_shl, lI_shr, nI_iI, lg_lt0, lg_gt0, lg_eq0, i_ne0', l_ne0', iI_lt, iI_le, iI_eq, lI_lt, lI_le, lI_eq, zb_0, zb_fit, zb_fit0, zb_fit1, i_one_zero, i_w_in, z_tb0, z_tb1, z_tb2, z_tb3, z_tb4, z_tb5, z_tb6, z_tb7, z_tb8, z_tbl, z_tu0, z_tu1, z_tu2, z_i_62, z_i_63, z_i_86, z_i_88, z_l_Y, z_ui_62, z_ui_63, z_ui_86, z_ui_88, z_ul_Y, z_sz_Y, z_sw_Y, iI_nat, z_ix_t, z_at, Int.add_zero, Int.sub_zero, Int.zero_add, Int.mul_zero, ne_eq, Bool.false_eq_true, Bool.true_eq_false, reduceCtorEq, eq_self, and_true, true_and, and_false, false_and, and_self, not_true_eq_false, not_false_eq_true, decide_true, decide_false, ↓reduceIte, Int.reduceEq, Int.reduceNe, Int.reduceLT, Int.reduceLE, Int.reduceAdd, Int.reduceSub, Int.reduceMul, Int.reduceNeg, Nat.reduceAdd, Nat.reduceEqDiff, Nat.reduceBEq, ↓z_x_eq, z_g_t, z_bI_s, z_bL_s, z_bR_s, z_bV_s, Int.cast_ofNat_Int, beq_self_eq_true, Bool.and_true, Bool.true_and, Bool.and_self, Bool.or_true, Bool.true_or, Bool.false_and, Bool.and_false, Bool.false_or, Bool.or_false, Bool.not_false, Bool.not_true, if_true, if_false, ite_true, ite_false, z_up_eq, z_up_app, z_ro_eq, c1, e1, zb_t, zb_f, q_G_k, k1', e_Re_readEither_64, nx']
            rw [e]
            exact ih
          | true =>
            have nx' := nx (C1 ++ [(21, 0)]) (by omega)
            have ih := p_eil hE hT hl hq m (x.2.1 + 1) (i + 1) false true (C1 ++ [(21, 0)]) (by omega) (by omega) (by omega) (by simp only [zb_t, zb_f, List.length_append, List.length_singleton] at hC ⊢; omega)
            have e : z_w d_Re_readEither (z_call E) 6 [some (vr 56), some (vi (iI (zb false))), some (vi (iI (zb true))), some (vi (iI i))] [] (z_Y T (q_G G K V j C) s) = z_w d_Re_readEither (z_call E) 6 [some (vr 56), some (vi (iI (zb false))), some (vi (iI (zb true))), some (vi (iI (i + 1)))] [] (z_Y T (q_G G K V (x.2.1 + 1) (C1 ++ [(21, 0)])) s) := by
              rw [e_Re_readEither_6]
              simp -implicitDefEqProofs (disch := first | assumption | omega | rfl | (simp only [z_up_eq, z_up_app, ↓reduceIte, Nat.reduceEqDiff]; omega)) only [z_lit0, z_lit1, z_lit2, z_litl, iI_add, iI_sub, iI_mul, iI_neg, iI_and, iI_or, iI_xor, iI_shl, iI_shr, iI_ushr, iI_div, iI_b, iI_c, iI_i2l, lI_l2i, lI_add, lI_sub, lI_mul, lI_neg, lI_div, lI_or, lI_and, lI_shl, lI_shr, nI_iI, lg_lt0, lg_gt0, lg_eq0, i_ne0', l_ne0', iI_lt, iI_le, iI_eq, lI_lt, lI_le, lI_eq, zb_0, zb_fit, zb_fit0, zb_fit1, i_one_zero, i_w_in, z_tb0, z_tb1, z_tb2, z_tb3, z_tb4, z_tb5, z_tb6, z_tb7, z_tb8, z_tbl, z_tu0, z_tu1, z_tu2, z_i_62, z_i_63, z_i_86, z_i_88, z_l_Y, z_ui_62, z_ui_63, z_ui_86, z_ui_88, z_ul_Y, z_sz_Y, z_sw_Y, iI_nat, z_ix_t, z_at, Int.add_zero, Int.sub_zero, Int.zero_add, Int.mul_zero, ne_eq, Bool.false_eq_true, Bool.true_eq_false, reduceCtorEq, eq_self, and_true, true_and, and_false, false_and, and_self, not_true_eq_false, not_false_eq_true, decide_true, decide_false, ↓reduceIte, Int.reduceEq, Int.reduceNe, Int.reduceLT, Int.reduceLE, Int.reduceAdd, Int.reduceSub, Int.reduceMul, Int.reduceNeg, Nat.reduceAdd, Nat.reduceEqDiff, Nat.reduceBEq, ↓z_x_eq, z_g_t, z_bI_s, z_bL_s, z_bR_s, z_bV_s, Int.cast_ofNat_Int, beq_self_eq_true, Bool.and_true, Bool.true_and, Bool.and_self, Bool.or_true, Bool.true_or, Bool.false_and, Bool.and_false, Bool.false_or, Bool.or_false, Bool.not_false, Bool.not_true, if_true, if_false, ite_true, ite_false, z_up_eq, z_up_app, z_ro_eq, c1, e1, zb_t, zb_f, q_G_k, k1', em42, e_Re_readEither_64, nx']
            rw [e]
            exact ih
        | true =>
          cases bo with
          | false =>
            have nx' := nx (C1) (by omega)
            have ih := p_eil hE hT hl hq m (x.2.1 + 1) (i + 1) true true (C1) (by omega) (by omega) (by omega) (by simp only [zb_t, zb_f] at hC ⊢; omega)
            have e : z_w d_Re_readEither (z_call E) 6 [some (vr 56), some (vi (iI (zb true))), some (vi (iI (zb false))), some (vi (iI i))] [] (z_Y T (q_G G K V j C) s) = z_w d_Re_readEither (z_call E) 6 [some (vr 56), some (vi (iI (zb true))), some (vi (iI (zb true))), some (vi (iI (i + 1)))] [] (z_Y T (q_G G K V (x.2.1 + 1) (C1)) s) := by
              rw [e_Re_readEither_6]
              simp -implicitDefEqProofs (disch := first | assumption | omega | rfl | (simp only [z_up_eq, z_up_app, ↓reduceIte, Nat.reduceEqDiff]; omega)) only [z_lit0, z_lit1, z_lit2, z_litl, iI_add, iI_sub, iI_mul, iI_neg, iI_and, iI_or, iI_xor, iI_shl, iI_shr, iI_ushr, iI_div, iI_b, iI_c, iI_i2l, lI_l2i, lI_add, lI_sub, lI_mul, lI_neg, lI_div, lI_or, lI_and, lI_shl, lI_shr, nI_iI, lg_lt0, lg_gt0, lg_eq0, i_ne0', l_ne0', iI_lt, iI_le, iI_eq, lI_lt, lI_le, lI_eq, zb_0, zb_fit, zb_fit0, zb_fit1, i_one_zero, i_w_in, z_tb0, z_tb1, z_tb2, z_tb3, z_tb4, z_tb5, z_tb6, z_tb7, z_tb8, z_tbl, z_tu0, z_tu1, z_tu2, z_i_62, z_i_63, z_i_86, z_i_88, z_l_Y, z_ui_62, z_ui_63, z_ui_86, z_ui_88, z_ul_Y, z_sz_Y, z_sw_Y, iI_nat, z_ix_t, z_at, Int.add_zero, Int.sub_zero, Int.zero_add, Int.mul_zero, ne_eq, Bool.false_eq_true, Bool.true_eq_false, reduceCtorEq, eq_self, and_true, true_and, and_false, false_and, and_self, not_true_eq_false, not_false_eq_true, decide_true, decide_false, ↓reduceIte, Int.reduceEq, Int.reduceNe, Int.reduceLT, Int.reduceLE, Int.reduceAdd, Int.reduceSub, Int.reduceMul, Int.reduceNeg, Nat.reduceAdd, Nat.reduceEqDiff, Nat.reduceBEq, ↓z_x_eq, z_g_t, z_bI_s, z_bL_s, z_bR_s, z_bV_s, Int.cast_ofNat_Int, beq_self_eq_true, Bool.and_true, Bool.true_and, Bool.and_self, Bool.or_true, Bool.true_or, Bool.false_and, Bool.and_false, Bool.false_or, Bool.or_false, Bool.not_false, Bool.not_true, if_true, if_false, ite_true, ite_false, z_up_eq, z_up_app, z_ro_eq, c1, e1, zb_t, zb_f, q_G_k, k1', e_Re_readEither_64, nx']
            rw [e]
            exact ih
          | true =>
            have nx' := nx (C1 ++ [(21, 0)]) (by omega)
            have ih := p_eil hE hT hl hq m (x.2.1 + 1) (i + 1) true true (C1 ++ [(21, 0)]) (by omega) (by omega) (by omega) (by simp only [zb_t, zb_f, List.length_append, List.length_singleton] at hC ⊢; omega)
            have e : z_w d_Re_readEither (z_call E) 6 [some (vr 56), some (vi (iI (zb true))), some (vi (iI (zb true))), some (vi (iI i))] [] (z_Y T (q_G G K V j C) s) = z_w d_Re_readEither (z_call E) 6 [some (vr 56), some (vi (iI (zb true))), some (vi (iI (zb true))), some (vi (iI (i + 1)))] [] (z_Y T (q_G G K V (x.2.1 + 1) (C1 ++ [(21, 0)])) s) := by
              rw [e_Re_readEither_6]
              simp -implicitDefEqProofs (disch := first | assumption | omega | rfl | (simp only [z_up_eq, z_up_app, ↓reduceIte, Nat.reduceEqDiff]; omega)) only [z_lit0, z_lit1, z_lit2, z_litl, iI_add, iI_sub, iI_mul, iI_neg, iI_and, iI_or, iI_xor, iI_shl, iI_shr, iI_ushr, iI_div, iI_b, iI_c, iI_i2l, lI_l2i, lI_add, lI_sub, lI_mul, lI_neg, lI_div, lI_or, lI_and, lI_shl, lI_shr, nI_iI, lg_lt0, lg_gt0, lg_eq0, i_ne0', l_ne0', iI_lt, iI_le, iI_eq, lI_lt, lI_le, lI_eq, zb_0, zb_fit, zb_fit0, zb_fit1, i_one_zero, i_w_in, z_tb0, z_tb1, z_tb2, z_tb3, z_tb4, z_tb5, z_tb6, z_tb7, z_tb8, z_tbl, z_tu0, z_tu1, z_tu2, z_i_62, z_i_63, z_i_86, z_i_88, z_l_Y, z_ui_62, z_ui_63, z_ui_86, z_ui_88, z_ul_Y, z_sz_Y, z_sw_Y, iI_nat, z_ix_t, z_at, Int.add_zero, Int.sub_zero, Int.zero_add, Int.mul_zero, ne_eq, Bool.false_eq_true, Bool.true_eq_false, reduceCtorEq, eq_self, and_true, true_and, and_false, false_and, and_self, not_true_eq_false, not_false_eq_true, decide_true, decide_false, ↓reduceIte, Int.reduceEq, Int.reduceNe, Int.reduceLT, Int.reduceLE, Int.reduceAdd, Int.reduceSub, Int.reduceMul, Int.reduceNeg, Nat.reduceAdd, Nat.reduceEqDiff, Nat.reduceBEq, ↓z_x_eq, z_g_t, z_bI_s, z_bL_s, z_bR_s, z_bV_s, Int.cast_ofNat_Int, beq_self_eq_true, Bool.and_true, Bool.true_and, Bool.and_self, Bool.or_true, Bool.true_or, Bool.false_and, Bool.and_false, Bool.false_or, Bool.or_false, Bool.not_false, Bool.not_true, if_true, if_false, ite_true, ite_false, z_up_eq, z_up_app, z_ro_eq, c1, e1, zb_t, zb_f, q_G_k, k1', em42, e_Re_readEither_64, nx']
            rw [e]
            exact ih
      · have k1' : (K x.2.1 = 42) = False := eq_false k1
        rw [if_neg k1]
        by_cases k2 : K x.2.1 = 41
        · have k2' : (K x.2.1 = 41) = True := eq_true k2
          have jl := q_lt hT (show K x.2.1 ≠ 0 by omega)
          rw [if_pos k2]
          cases ei with
          | false =>
            cases bo with
            | false =>
              have nx' := nx (C1) (by omega)
              have ih := p_eil hE hT hl hq m (x.2.1 + 1) (i + 1) true false (C1) (by omega) (by omega) (by omega) (by simp only [zb_t, zb_f] at hC ⊢; omega)
              have e : z_w d_Re_readEither (z_call E) 6 [some (vr 56), some (vi (iI (zb false))), some (vi (iI (zb false))), some (vi (iI i))] [] (z_Y T (q_G G K V j C) s) = z_w d_Re_readEither (z_call E) 6 [some (vr 56), some (vi (iI (zb true))), some (vi (iI (zb false))), some (vi (iI (i + 1)))] [] (z_Y T (q_G G K V (x.2.1 + 1) (C1)) s) := by
                rw [e_Re_readEither_6]
                simp -implicitDefEqProofs (disch := first | assumption | omega | rfl | (simp only [z_up_eq, z_up_app, ↓reduceIte, Nat.reduceEqDiff]; omega)) only [z_lit0, z_lit1, z_lit2, z_litl, iI_add, iI_sub, iI_mul, iI_neg, iI_and, iI_or, iI_xor, iI_shl, iI_shr, iI_ushr, iI_div, iI_b, iI_c, iI_i2l, lI_l2i, lI_add, lI_sub, lI_mul, lI_neg, lI_div, lI_or, lI_and, lI_shl, lI_shr, nI_iI, lg_lt0, lg_gt0, lg_eq0, i_ne0', l_ne0', iI_lt, iI_le, iI_eq, lI_lt, lI_le, lI_eq, zb_0, zb_fit, zb_fit0, zb_fit1, i_one_zero, i_w_in, z_tb0, z_tb1, z_tb2, z_tb3, z_tb4, z_tb5, z_tb6, z_tb7, z_tb8, z_tbl, z_tu0, z_tu1, z_tu2, z_i_62, z_i_63, z_i_86, z_i_88, z_l_Y, z_ui_62, z_ui_63, z_ui_86, z_ui_88, z_ul_Y, z_sz_Y, z_sw_Y, iI_nat, z_ix_t, z_at, Int.add_zero, Int.sub_zero, Int.zero_add, Int.mul_zero, ne_eq, Bool.false_eq_true, Bool.true_eq_false, reduceCtorEq, eq_self, and_true, true_and, and_false, false_and, and_self, not_true_eq_false, not_false_eq_true, decide_true, decide_false, ↓reduceIte, Int.reduceEq, Int.reduceNe, Int.reduceLT, Int.reduceLE, Int.reduceAdd, Int.reduceSub, Int.reduceMul, Int.reduceNeg, Nat.reduceAdd, Nat.reduceEqDiff, Nat.reduceBEq, ↓z_x_eq, z_g_t, z_bI_s, z_bL_s, z_bR_s, z_bV_s, Int.cast_ofNat_Int, beq_self_eq_true, Bool.and_true, Bool.true_and, Bool.and_self, Bool.or_true, Bool.true_or, Bool.false_and, Bool.and_false, Bool.false_or, Bool.or_false, Bool.not_false, Bool.not_true, if_true, if_false, ite_true, ite_false, z_up_eq, z_up_app, z_ro_eq, c1, e1, zb_t, zb_f, q_G_k, k1', k2', e_Re_readEither_64, nx']
              rw [e]
              exact ih
            | true =>
              have nx' := nx (C1 ++ [(21, 0)]) (by omega)
              have ih := p_eil hE hT hl hq m (x.2.1 + 1) (i + 1) true false (C1 ++ [(21, 0)]) (by omega) (by omega) (by omega) (by simp only [zb_t, zb_f, List.length_append, List.length_singleton] at hC ⊢; omega)
              have e : z_w d_Re_readEither (z_call E) 6 [some (vr 56), some (vi (iI (zb false))), some (vi (iI (zb true))), some (vi (iI i))] [] (z_Y T (q_G G K V j C) s) = z_w d_Re_readEither (z_call E) 6 [some (vr 56), some (vi (iI (zb true))), some (vi (iI (zb false))), some (vi (iI (i + 1)))] [] (z_Y T (q_G G K V (x.2.1 + 1) (C1 ++ [(21, 0)])) s) := by
                rw [e_Re_readEither_6]
                simp -implicitDefEqProofs (disch := first | assumption | omega | rfl | (simp only [z_up_eq, z_up_app, ↓reduceIte, Nat.reduceEqDiff]; omega)) only [z_lit0, z_lit1, z_lit2, z_litl, iI_add, iI_sub, iI_mul, iI_neg, iI_and, iI_or, iI_xor, iI_shl, iI_shr, iI_ushr, iI_div, iI_b, iI_c, iI_i2l, lI_l2i, lI_add, lI_sub, lI_mul, lI_neg, lI_div, lI_or, lI_and, lI_shl, lI_shr, nI_iI, lg_lt0, lg_gt0, lg_eq0, i_ne0', l_ne0', iI_lt, iI_le, iI_eq, lI_lt, lI_le, lI_eq, zb_0, zb_fit, zb_fit0, zb_fit1, i_one_zero, i_w_in, z_tb0, z_tb1, z_tb2, z_tb3, z_tb4, z_tb5, z_tb6, z_tb7, z_tb8, z_tbl, z_tu0, z_tu1, z_tu2, z_i_62, z_i_63, z_i_86, z_i_88, z_l_Y, z_ui_62, z_ui_63, z_ui_86, z_ui_88, z_ul_Y, z_sz_Y, z_sw_Y, iI_nat, z_ix_t, z_at, Int.add_zero, Int.sub_zero, Int.zero_add, Int.mul_zero, ne_eq, Bool.false_eq_true, Bool.true_eq_false, reduceCtorEq, eq_self, and_true, true_and, and_false, false_and, and_self, not_true_eq_false, not_false_eq_true, decide_true, decide_false, ↓reduceIte, Int.reduceEq, Int.reduceNe, Int.reduceLT, Int.reduceLE, Int.reduceAdd, Int.reduceSub, Int.reduceMul, Int.reduceNeg, Nat.reduceAdd, Nat.reduceEqDiff, Nat.reduceBEq, ↓z_x_eq, z_g_t, z_bI_s, z_bL_s, z_bR_s, z_bV_s, Int.cast_ofNat_Int, beq_self_eq_true, Bool.and_true, Bool.true_and, Bool.and_self, Bool.or_true, Bool.true_or, Bool.false_and, Bool.and_false, Bool.false_or, Bool.or_false, Bool.not_false, Bool.not_true, if_true, if_false, ite_true, ite_false, z_up_eq, z_up_app, z_ro_eq, c1, e1, zb_t, zb_f, q_G_k, k1', k2', em42, e_Re_readEither_64, nx']
              rw [e]
              exact ih
          | true =>
            cases bo with
            | false =>
              have nx' := nx (C1 ++ [(22, 0)]) (by omega)
              have ih := p_eil hE hT hl hq m (x.2.1 + 1) (i + 1) true false (C1 ++ [(22, 0)]) (by omega) (by omega) (by omega) (by simp only [zb_t, zb_f, List.length_append, List.length_singleton] at hC ⊢; omega)
              have e : z_w d_Re_readEither (z_call E) 6 [some (vr 56), some (vi (iI (zb true))), some (vi (iI (zb false))), some (vi (iI i))] [] (z_Y T (q_G G K V j C) s) = z_w d_Re_readEither (z_call E) 6 [some (vr 56), some (vi (iI (zb true))), some (vi (iI (zb false))), some (vi (iI (i + 1)))] [] (z_Y T (q_G G K V (x.2.1 + 1) (C1 ++ [(22, 0)])) s) := by
                rw [e_Re_readEither_6]
                simp -implicitDefEqProofs (disch := first | assumption | omega | rfl | (simp only [z_up_eq, z_up_app, ↓reduceIte, Nat.reduceEqDiff]; omega)) only [z_lit0, z_lit1, z_lit2, z_litl, iI_add, iI_sub, iI_mul, iI_neg, iI_and, iI_or, iI_xor, iI_shl, iI_shr, iI_ushr, iI_div, iI_b, iI_c, iI_i2l, lI_l2i, lI_add, lI_sub, lI_mul, lI_neg, lI_div, lI_or, lI_and, lI_shl, lI_shr, nI_iI, lg_lt0, lg_gt0, lg_eq0, i_ne0', l_ne0', iI_lt, iI_le, iI_eq, lI_lt, lI_le, lI_eq, zb_0, zb_fit, zb_fit0, zb_fit1, i_one_zero, i_w_in, z_tb0, z_tb1, z_tb2, z_tb3, z_tb4, z_tb5, z_tb6, z_tb7, z_tb8, z_tbl, z_tu0, z_tu1, z_tu2, z_i_62, z_i_63, z_i_86, z_i_88, z_l_Y, z_ui_62, z_ui_63, z_ui_86, z_ui_88, z_ul_Y, z_sz_Y, z_sw_Y, iI_nat, z_ix_t, z_at, Int.add_zero, Int.sub_zero, Int.zero_add, Int.mul_zero, ne_eq, Bool.false_eq_true, Bool.true_eq_false, reduceCtorEq, eq_self, and_true, true_and, and_false, false_and, and_self, not_true_eq_false, not_false_eq_true, decide_true, decide_false, ↓reduceIte, Int.reduceEq, Int.reduceNe, Int.reduceLT, Int.reduceLE, Int.reduceAdd, Int.reduceSub, Int.reduceMul, Int.reduceNeg, Nat.reduceAdd, Nat.reduceEqDiff, Nat.reduceBEq, ↓z_x_eq, z_g_t, z_bI_s, z_bL_s, z_bR_s, z_bV_s, Int.cast_ofNat_Int, beq_self_eq_true, Bool.and_true, Bool.true_and, Bool.and_self, Bool.or_true, Bool.true_or, Bool.false_and, Bool.and_false, Bool.false_or, Bool.or_false, Bool.not_false, Bool.not_true, if_true, if_false, ite_true, ite_false, z_up_eq, z_up_app, z_ro_eq, c1, e1, zb_t, zb_f, q_G_k, k1', k2', em41, e_Re_readEither_64, nx']
              rw [e]
              exact ih
            | true =>
              have em2 := p_remit (T := T) (s := s) (G := G) (K := K) (V := V) (j := x.2.1) (E := E) (by omega) (C := C1 ++ [(21, 0)]) (by rw [List.length_append, List.length_singleton]; simp only [zb_t] at hC; omega) 22 0
              rw [show t_enc 22 0 = 41 from rfl] at em2
              have nx' := nx (C1 ++ [(21, 0)] ++ [(22, 0)]) (by omega)
              have ih := p_eil hE hT hl hq m (x.2.1 + 1) (i + 1) true false (C1 ++ [(21, 0)] ++ [(22, 0)]) (by omega) (by omega) (by omega) (by simp only [zb_t, zb_f, List.length_append, List.length_singleton] at hC ⊢; omega)
              have e : z_w d_Re_readEither (z_call E) 6 [some (vr 56), some (vi (iI (zb true))), some (vi (iI (zb true))), some (vi (iI i))] [] (z_Y T (q_G G K V j C) s) = z_w d_Re_readEither (z_call E) 6 [some (vr 56), some (vi (iI (zb true))), some (vi (iI (zb false))), some (vi (iI (i + 1)))] [] (z_Y T (q_G G K V (x.2.1 + 1) (C1 ++ [(21, 0)] ++ [(22, 0)])) s) := by
                rw [e_Re_readEither_6]
                simp -implicitDefEqProofs (disch := first | assumption | omega | rfl | (simp only [z_up_eq, z_up_app, ↓reduceIte, Nat.reduceEqDiff]; omega)) only [z_lit0, z_lit1, z_lit2, z_litl, iI_add, iI_sub, iI_mul, iI_neg, iI_and, iI_or, iI_xor, iI_shl, iI_shr, iI_ushr, iI_div, iI_b, iI_c, iI_i2l, lI_l2i, lI_add, lI_sub, lI_mul, lI_neg, lI_div, lI_or, lI_and, lI_shl, lI_shr, nI_iI, lg_lt0, lg_gt0, lg_eq0, i_ne0', l_ne0', iI_lt, iI_le, iI_eq, lI_lt, lI_le, lI_eq, zb_0, zb_fit, zb_fit0, zb_fit1, i_one_zero, i_w_in, z_tb0, z_tb1, z_tb2, z_tb3, z_tb4, z_tb5, z_tb6, z_tb7, z_tb8, z_tbl, z_tu0, z_tu1, z_tu2, z_i_62, z_i_63, z_i_86, z_i_88, z_l_Y, z_ui_62, z_ui_63, z_ui_86, z_ui_88, z_ul_Y, z_sz_Y, z_sw_Y, iI_nat, z_ix_t, z_at, Int.add_zero, Int.sub_zero, Int.zero_add, Int.mul_zero, ne_eq, Bool.false_eq_true, Bool.true_eq_false, reduceCtorEq, eq_self, and_true, true_and, and_false, false_and, and_self, not_true_eq_false, not_false_eq_true, decide_true, decide_false, ↓reduceIte, Int.reduceEq, Int.reduceNe, Int.reduceLT, Int.reduceLE, Int.reduceAdd, Int.reduceSub, Int.reduceMul, Int.reduceNeg, Nat.reduceAdd, Nat.reduceEqDiff, Nat.reduceBEq, ↓z_x_eq, z_g_t, z_bI_s, z_bL_s, z_bR_s, z_bV_s, Int.cast_ofNat_Int, beq_self_eq_true, Bool.and_true, Bool.true_and, Bool.and_self, Bool.or_true, Bool.true_or, Bool.false_and, Bool.and_false, Bool.false_or, Bool.or_false, Bool.not_false, Bool.not_true, if_true, if_false, ite_true, ite_false, z_up_eq, z_up_app, z_ro_eq, c1, e1, zb_t, zb_f, q_G_k, k1', k2', em42, em2, e_Re_readEither_64, nx']
              rw [e]
              exact ih
        · have k2' : (K x.2.1 = 41) = False := eq_false k2
          rw [if_neg k2]
          cases ei with
          | false =>
            cases bo with
            | false =>
              refine q_rs_t ?_
              rw [e_Re_readEither_6]
              simp -implicitDefEqProofs (disch := first | assumption | omega | rfl | (simp only [z_up_eq, z_up_app, ↓reduceIte, Nat.reduceEqDiff]; omega)) only [z_lit0, z_lit1, z_lit2, z_litl, iI_add, iI_sub, iI_mul, iI_neg, iI_and, iI_or, iI_xor, iI_shl, iI_shr, iI_ushr, iI_div, iI_b, iI_c, iI_i2l, lI_l2i, lI_add, lI_sub, lI_mul, lI_neg, lI_div, lI_or, lI_and, lI_shl, lI_shr, nI_iI, lg_lt0, lg_gt0, lg_eq0, i_ne0', l_ne0', iI_lt, iI_le, iI_eq, lI_lt, lI_le, lI_eq, zb_0, zb_fit, zb_fit0, zb_fit1, i_one_zero, i_w_in, z_tb0, z_tb1, z_tb2, z_tb3, z_tb4, z_tb5, z_tb6, z_tb7, z_tb8, z_tbl, z_tu0, z_tu1, z_tu2, z_i_62, z_i_63, z_i_86, z_i_88, z_l_Y, z_ui_62, z_ui_63, z_ui_86, z_ui_88, z_ul_Y, z_sz_Y, z_sw_Y, iI_nat, z_ix_t, z_at, Int.add_zero, Int.sub_zero, Int.zero_add, Int.mul_zero, ne_eq, Bool.false_eq_true, Bool.true_eq_false, reduceCtorEq, eq_self, and_true, true_and, and_false, false_and, and_self, not_true_eq_false, not_false_eq_true, decide_true, decide_false, ↓reduceIte, Int.reduceEq, Int.reduceNe, Int.reduceLT, Int.reduceLE, Int.reduceAdd, Int.reduceSub, Int.reduceMul, Int.reduceNeg, Nat.reduceAdd, Nat.reduceEqDiff, Nat.reduceBEq, ↓z_x_eq, z_g_t, z_bI_s, z_bL_s, z_bR_s, z_bV_s, Int.cast_ofNat_Int, beq_self_eq_true, Bool.and_true, Bool.true_and, Bool.and_self, Bool.or_true, Bool.true_or, Bool.false_and, Bool.and_false, Bool.false_or, Bool.or_false, Bool.not_false, Bool.not_true, if_true, if_false, ite_true, ite_false, z_up_eq, z_up_app, z_ro_eq, c1, e1, zb_t, zb_f, q_G_k, k1', k2', e_Re_readEither_64]
              rfl
            | true =>
              refine q_rs_t ?_
              rw [e_Re_readEither_6]
              simp -implicitDefEqProofs (disch := first | assumption | omega | rfl | (simp only [z_up_eq, z_up_app, ↓reduceIte, Nat.reduceEqDiff]; omega)) only [z_lit0, z_lit1, z_lit2, z_litl, iI_add, iI_sub, iI_mul, iI_neg, iI_and, iI_or, iI_xor, iI_shl, iI_shr, iI_ushr, iI_div, iI_b, iI_c, iI_i2l, lI_l2i, lI_add, lI_sub, lI_mul, lI_neg, lI_div, lI_or, lI_and, lI_shl, lI_shr, nI_iI, lg_lt0, lg_gt0, lg_eq0, i_ne0', l_ne0', iI_lt, iI_le, iI_eq, lI_lt, lI_le, lI_eq, zb_0, zb_fit, zb_fit0, zb_fit1, i_one_zero, i_w_in, z_tb0, z_tb1, z_tb2, z_tb3, z_tb4, z_tb5, z_tb6, z_tb7, z_tb8, z_tbl, z_tu0, z_tu1, z_tu2, z_i_62, z_i_63, z_i_86, z_i_88, z_l_Y, z_ui_62, z_ui_63, z_ui_86, z_ui_88, z_ul_Y, z_sz_Y, z_sw_Y, iI_nat, z_ix_t, z_at, Int.add_zero, Int.sub_zero, Int.zero_add, Int.mul_zero, ne_eq, Bool.false_eq_true, Bool.true_eq_false, reduceCtorEq, eq_self, and_true, true_and, and_false, false_and, and_self, not_true_eq_false, not_false_eq_true, decide_true, decide_false, ↓reduceIte, Int.reduceEq, Int.reduceNe, Int.reduceLT, Int.reduceLE, Int.reduceAdd, Int.reduceSub, Int.reduceMul, Int.reduceNeg, Nat.reduceAdd, Nat.reduceEqDiff, Nat.reduceBEq, ↓z_x_eq, z_g_t, z_bI_s, z_bL_s, z_bR_s, z_bV_s, Int.cast_ofNat_Int, beq_self_eq_true, Bool.and_true, Bool.true_and, Bool.and_self, Bool.or_true, Bool.true_or, Bool.false_and, Bool.and_false, Bool.false_or, Bool.or_false, Bool.not_false, Bool.not_true, if_true, if_false, ite_true, ite_false, z_up_eq, z_up_app, z_ro_eq, c1, e1, zb_t, zb_f, q_G_k, k1', k2', em42, e_Re_readEither_64]
              rfl
          | true =>
            cases bo with
            | false =>
              refine q_rs_t ?_
              rw [e_Re_readEither_6]
              simp -implicitDefEqProofs (disch := first | assumption | omega | rfl | (simp only [z_up_eq, z_up_app, ↓reduceIte, Nat.reduceEqDiff]; omega)) only [z_lit0, z_lit1, z_lit2, z_litl, iI_add, iI_sub, iI_mul, iI_neg, iI_and, iI_or, iI_xor, iI_shl, iI_shr, iI_ushr, iI_div, iI_b, iI_c, iI_i2l, lI_l2i, lI_add, lI_sub, lI_mul, lI_neg, lI_div, lI_or, lI_and, lI_shl, lI_shr, nI_iI, lg_lt0, lg_gt0, lg_eq0, i_ne0', l_ne0', iI_lt, iI_le, iI_eq, lI_lt, lI_le, lI_eq, zb_0, zb_fit, zb_fit0, zb_fit1, i_one_zero, i_w_in, z_tb0, z_tb1, z_tb2, z_tb3, z_tb4, z_tb5, z_tb6, z_tb7, z_tb8, z_tbl, z_tu0, z_tu1, z_tu2, z_i_62, z_i_63, z_i_86, z_i_88, z_l_Y, z_ui_62, z_ui_63, z_ui_86, z_ui_88, z_ul_Y, z_sz_Y, z_sw_Y, iI_nat, z_ix_t, z_at, Int.add_zero, Int.sub_zero, Int.zero_add, Int.mul_zero, ne_eq, Bool.false_eq_true, Bool.true_eq_false, reduceCtorEq, eq_self, and_true, true_and, and_false, false_and, and_self, not_true_eq_false, not_false_eq_true, decide_true, decide_false, ↓reduceIte, Int.reduceEq, Int.reduceNe, Int.reduceLT, Int.reduceLE, Int.reduceAdd, Int.reduceSub, Int.reduceMul, Int.reduceNeg, Nat.reduceAdd, Nat.reduceEqDiff, Nat.reduceBEq, ↓z_x_eq, z_g_t, z_bI_s, z_bL_s, z_bR_s, z_bV_s, Int.cast_ofNat_Int, beq_self_eq_true, Bool.and_true, Bool.true_and, Bool.and_self, Bool.or_true, Bool.true_or, Bool.false_and, Bool.and_false, Bool.false_or, Bool.or_false, Bool.not_false, Bool.not_true, if_true, if_false, ite_true, ite_false, z_up_eq, z_up_app, z_ro_eq, c1, e1, zb_t, zb_f, q_G_k, k1', k2', em41, e_Re_readEither_64]
              rfl
            | true =>
              have em2 := p_remit (T := T) (s := s) (G := G) (K := K) (V := V) (j := x.2.1) (E := E) (by omega) (C := C1 ++ [(21, 0)]) (by rw [List.length_append, List.length_singleton]; simp only [zb_t] at hC; omega) 22 0
              rw [show t_enc 22 0 = 41 from rfl] at em2
              refine q_rs_t ?_
              rw [e_Re_readEither_6]
              simp -implicitDefEqProofs (disch := first | assumption | omega | rfl | (simp only [z_up_eq, z_up_app, ↓reduceIte, Nat.reduceEqDiff]; omega)) only [z_lit0, z_lit1, z_lit2, z_litl, iI_add, iI_sub, iI_mul, iI_neg, iI_and, iI_or, iI_xor, iI_shl, iI_shr, iI_ushr, iI_div, iI_b, iI_c, iI_i2l, lI_l2i, lI_add, lI_sub, lI_mul, lI_neg, lI_div, lI_or, lI_and, lI_shl, lI_shr, nI_iI, lg_lt0, lg_gt0, lg_eq0, i_ne0', l_ne0', iI_lt, iI_le, iI_eq, lI_lt, lI_le, lI_eq, zb_0, zb_fit, zb_fit0, zb_fit1, i_one_zero, i_w_in, z_tb0, z_tb1, z_tb2, z_tb3, z_tb4, z_tb5, z_tb6, z_tb7, z_tb8, z_tbl, z_tu0, z_tu1, z_tu2, z_i_62, z_i_63, z_i_86, z_i_88, z_l_Y, z_ui_62, z_ui_63, z_ui_86, z_ui_88, z_ul_Y, z_sz_Y, z_sw_Y, iI_nat, z_ix_t, z_at, Int.add_zero, Int.sub_zero, Int.zero_add, Int.mul_zero, ne_eq, Bool.false_eq_true, Bool.true_eq_false, reduceCtorEq, eq_self, and_true, true_and, and_false, false_and, and_self, not_true_eq_false, not_false_eq_true, decide_true, decide_false, ↓reduceIte, Int.reduceEq, Int.reduceNe, Int.reduceLT, Int.reduceLE, Int.reduceAdd, Int.reduceSub, Int.reduceMul, Int.reduceNeg, Nat.reduceAdd, Nat.reduceEqDiff, Nat.reduceBEq, ↓z_x_eq, z_g_t, z_bI_s, z_bL_s, z_bR_s, z_bV_s, Int.cast_ofNat_Int, beq_self_eq_true, Bool.and_true, Bool.true_and, Bool.and_self, Bool.or_true, Bool.true_or, Bool.false_and, Bool.and_false, Bool.false_or, Bool.or_false, Bool.not_false, Bool.not_true, if_true, if_false, ite_true, ite_false, z_up_eq, z_up_app, z_ro_eq, c1, e1, zb_t, zb_f, q_G_k, k1', k2', em42, em2, e_Re_readEither_64]
              rfl
    · obtain ⟨C', e1⟩ := h1.2 z
      rw [q_bd1 z]
      refine q_rs_f (C' := C') z ?_
      rw [e_Re_readEither_6]
      simp -implicitDefEqProofs (disch := first | assumption | omega | rfl | (simp only [z_up_eq, z_up_app, ↓reduceIte, Nat.reduceEqDiff]; omega)) only [z_lit0, z_lit1, z_lit2, z_litl, iI_add, iI_sub, iI_mul, iI_neg, iI_and, iI_or, iI_xor, iI_shl, iI_shr, iI_ushr, iI_div, iI_b, iI_c, iI_i2l, lI_l2i, lI_add, lI_sub, lI_mul, lI_neg, lI_div, lI_or, lI_and, lI_shl, lI_shr, nI_iI, lg_lt0, lg_gt0, lg_eq0, i_ne0', l_ne0', iI_lt, iI_le, iI_eq, lI_lt, lI_le, lI_eq, zb_0, zb_fit, zb_fit0, zb_fit1, i_one_zero, i_w_in, z_tb0, z_tb1, z_tb2, z_tb3, z_tb4, z_tb5, z_tb6, z_tb7, z_tb8, z_tbl, z_tu0, z_tu1, z_tu2, z_i_62, z_i_63, z_i_86, z_i_88, z_l_Y, z_ui_62, z_ui_63, z_ui_86, z_ui_88, z_ul_Y, z_sz_Y, z_sw_Y, iI_nat, z_ix_t, z_at, Int.add_zero, Int.sub_zero, Int.zero_add, Int.mul_zero, ne_eq, Bool.false_eq_true, Bool.true_eq_false, reduceCtorEq, eq_self, and_true, true_and, and_false, false_and, and_self, not_true_eq_false, not_false_eq_true, decide_true, decide_false, ↓reduceIte, Int.reduceEq, Int.reduceNe, Int.reduceLT, Int.reduceLE, Int.reduceAdd, Int.reduceSub, Int.reduceMul, Int.reduceNeg, Nat.reduceAdd, Nat.reduceEqDiff, Nat.reduceBEq, ↓z_x_eq, z_g_t, z_bI_s, z_bL_s, z_bR_s, z_bV_s, Int.cast_ofNat_Int, beq_self_eq_true, Bool.and_true, Bool.true_and, Bool.and_self, Bool.or_true, Bool.true_or, Bool.false_and, Bool.and_false, Bool.false_or, Bool.or_false, Bool.not_false, Bool.not_true, if_true, if_false, ite_true, ite_false, z_up_eq, z_up_app, z_ro_eq, c1, e1]
theorem p_either {q : Int} {E : Nat} (hE : 32 ≤ E) (hT : q_tk G K V X N) (hl : G 56 7 = 28 + q) (hq : 0 ≤ q ∧ q ≤ 2) (j : Nat) (hj : 1 ≤ j ∧ j ≤ N) : q_rs T s G K V X (j_ei K V (j_nm q) 300 j false false []) [] (z_call E 68 [vr 56] (z_Y T (q_G G K V j []) s)) := by
  obtain ⟨d, rfl⟩ : ∃ d, E = d + 1 := ⟨E - 1, by omega⟩
  have h := p_eil (T := T) (s := s) (E := d) (by omega) hT hl hq 300 j 0 false false [] (by omega) (by omega) hj.2 (by show (0 : Int) + 0 + 0 + 1 ≤ j; omega)
  rw [e_Re_readEither]
  exact h
end

/-! THE PURE PART, 33: be -/
theorem p_ckeepA (d : Nat) (T : ZT) (G : ZG) (hn : 0 ≤ G 25 1 ∧ G 25 1 < 30) (hc : 0 ≤ G 25 2 ∧ G 25 2 ≤ 30) : ∃ W, (∀ s, z_call (d + 3) 122 [vr 25, vr 20] (z_Y T G s) = some (vi (iI 0), z_Y T (z_up (z_up G 25 (z_ro (z_ro (G 25) 1 ((G 25 1 + 1) % 30)) 2 (if G 25 2 < 30 then G 25 2 + 1 else G 25 2))) 26 W) s)) ∧ k_cl G W (24 * G 25 1) := by
  have hy : 24 * G 25 1 = G 25 1 * 24 := by omega
  generalize hY : G 25 1 * 24 = y at *
  have q1 := fun s => p_copy d T G s (a := 21) (b := 26) (la := 10) (lb := 720) (i := 0) (j := y) (n := 10) (fun _ _ => ⟨rfl, rfl⟩) (fun _ _ => ⟨rfl, rfl⟩) (by omega) (by omega) rfl rfl rfl (by omega)
  have q2 := fun s => p_copy d T (z_up G 26 (z_cpr (G 21) (G 26) 0 y 10)) s (a := 22) (b := 26) (la := 10) (lb := 720) (i := 0) (j := y + 10) (n := 10) (fun _ _ => ⟨rfl, rfl⟩) (fun _ _ => ⟨rfl, rfl⟩) (by omega) (by omega) rfl rfl rfl (by omega)
  have q2' : ∀ s, z_call (d + 1) 1 [vr 22, vi (iI 0), vr 26, vi (iI (y + 10)), vi (iI 10)] (z_Y T (z_up G 26 (z_cpr (G 21) (G 26) 0 y 10)) s) = some (vi (iI 0), z_Y T (z_up G 26 (z_cpr (G 22) (z_cpr (G 21) (G 26) 0 y 10) 0 (y + 10) 10)) s) := by
    intro s
    have := q2 s
    rw [z_up_ne _ _ (show 22 ≠ 26 by omega), z_up_eq, z_up_up] at this
    exact this
  have r30 : G 25 1 + 1 - i_div (G 25 1 + 1) 30 * 30 = (G 25 1 + 1) % 30 := i_rem30 (by omega)
  have rz : z_ro (G 25) 1 ((G 25 1 + 1) % 30) 2 = G 25 2 := z_ro_ne _ _ (by omega)
  refine ⟨z_ro (z_ro (z_ro (z_ro (z_cpr (G 22) (z_cpr (G 21) (G 26) 0 y 10) 0 (y + 10) 10) (y + 20) (G 20 2)) (y + 20 + 1) (G 20 3)) (y + 20 + 2) (G 20 4)) (y + 20 + 3) (G 20 5), ?_, ?_⟩
  · intro s
    rw [e_St_keep]
    by_cases c : G 25 2 < 30
    · simp -implicitDefEqProofs (disch := first | assumption | omega | rfl | (simp only [z_up_eq, z_up_app, ↓reduceIte, Nat.reduceEqDiff]; omega)) only [z_lit0, z_lit1, z_lit2, z_litl, iI_add, iI_sub, iI_mul, iI_neg, iI_and, iI_or, iI_xor, iI_shl, iI_shr, iI_ushr, iI_div, iI_b, iI_c, iI_i2l, lI_l2i, lI_add, lI_sub, lI_mul, lI_neg, lI_div, lI_or, lI_and, lI_shl, lI_shr, nI_iI, lg_lt0, lg_gt0, lg_eq0, i_ne0', l_ne0', iI_lt, iI_le, iI_eq, lI_lt, lI_le, lI_eq, zb_0, zb_fit, zb_fit0, zb_fit1, i_one_zero, i_w_in, z_tb0, z_tb1, z_tb2, z_tb3, z_tb4, z_tb5, z_tb6, z_tb7, z_tb8, z_tbl, z_tu0, z_tu1, z_tu2, z_i_62, z_i_63, z_i_86, z_i_88, z_l_Y, z_ui_62, z_ui_63, z_ui_86, z_ui_88, z_ul_Y, z_sz_Y, z_sw_Y, iI_nat, z_ix_t, z_at, Int.add_zero, Int.sub_zero, Int.zero_add, Int.mul_zero, ne_eq, Bool.false_eq_true, Bool.true_eq_false, reduceCtorEq, eq_self, and_true, true_and, and_false, false_and, and_self, not_true_eq_false, not_false_eq_true, decide_true, decide_false, ↓reduceIte, Int.reduceEq, Int.reduceNe, Int.reduceLT, Int.reduceLE, Int.reduceAdd, Int.reduceSub, Int.reduceMul, Int.reduceNeg, Nat.reduceAdd, Nat.reduceEqDiff, Nat.reduceBEq, ↓z_x_eq, z_g_t, z_bI_s, z_bL_s, z_bR_s, z_bV_s, Int.cast_ofNat_Int, beq_self_eq_true, Bool.and_true, Bool.true_and, Bool.and_self, Bool.or_true, Bool.true_or, Bool.false_and, Bool.and_false, Bool.false_or, Bool.or_false, Bool.not_false, Bool.not_true, if_true, if_false, ite_true, ite_false, z_up_eq, z_up_app, z_ro_eq, hY, e_Mo_writeTo, q1, q2', z_up_up, z_up_cm, r30, rz, c]
    · have e2 : z_ro (z_ro (G 25) 1 ((G 25 1 + 1) % 30)) 2 (G 25 2) = z_ro (G 25) 1 ((G 25 1 + 1) % 30) := by
        have := z_ro_id (z_ro (G 25) 1 ((G 25 1 + 1) % 30)) 2
        rw [rz] at this; exact this
      simp -implicitDefEqProofs (disch := first | assumption | omega | rfl | (simp only [z_up_eq, z_up_app, ↓reduceIte, Nat.reduceEqDiff]; omega)) only [z_lit0, z_lit1, z_lit2, z_litl, iI_add, iI_sub, iI_mul, iI_neg, iI_and, iI_or, iI_xor, iI_shl, iI_shr, iI_ushr, iI_div, iI_b, iI_c, iI_i2l, lI_l2i, lI_add, lI_sub, lI_mul, lI_neg, lI_div, lI_or, lI_and, lI_shl, lI_shr, nI_iI, lg_lt0, lg_gt0, lg_eq0, i_ne0', l_ne0', iI_lt, iI_le, iI_eq, lI_lt, lI_le, lI_eq, zb_0, zb_fit, zb_fit0, zb_fit1, i_one_zero, i_w_in, z_tb0, z_tb1, z_tb2, z_tb3, z_tb4, z_tb5, z_tb6, z_tb7, z_tb8, z_tbl, z_tu0, z_tu1, z_tu2, z_i_62, z_i_63, z_i_86, z_i_88, z_l_Y, z_ui_62, z_ui_63, z_ui_86, z_ui_88, z_ul_Y, z_sz_Y, z_sw_Y, iI_nat, z_ix_t, z_at, Int.add_zero, Int.sub_zero, Int.zero_add, Int.mul_zero, ne_eq, Bool.false_eq_true, Bool.true_eq_false, reduceCtorEq, eq_self, and_true, true_and, and_false, false_and, and_self, not_true_eq_false, not_false_eq_true, decide_true, decide_false, ↓reduceIte, Int.reduceEq, Int.reduceNe, Int.reduceLT, Int.reduceLE, Int.reduceAdd, Int.reduceSub, Int.reduceMul, Int.reduceNeg, Nat.reduceAdd, Nat.reduceEqDiff, Nat.reduceBEq, ↓z_x_eq, z_g_t, z_bI_s, z_bL_s, z_bR_s, z_bV_s, Int.cast_ofNat_Int, beq_self_eq_true, Bool.and_true, Bool.true_and, Bool.and_self, Bool.or_true, Bool.true_or, Bool.false_and, Bool.and_false, Bool.false_or, Bool.or_false, Bool.not_false, Bool.not_true, if_true, if_false, ite_true, ite_false, z_up_eq, z_up_app, z_ro_eq, hY, e_Mo_writeTo, q1, q2', z_up_up, z_up_cm, r30, rz, c, e2]
  · rw [hy]
    refine ⟨fun k a => ?_, fun p a b => ⟨?_, ?_⟩, ?_, ?_, ?_, ?_⟩
    · rw [z_ro_ne _ _ (by omega), z_ro_ne _ _ (by omega), z_ro_ne _ _ (by omega), z_ro_ne _ _ (by omega)]
      unfold z_cpr
      rw [if_neg (by omega), if_neg (by omega)]
    · rw [z_ro_ne _ _ (by omega), z_ro_ne _ _ (by omega), z_ro_ne _ _ (by omega), z_ro_ne _ _ (by omega)]
      unfold z_cpr
      rw [if_neg (by omega), if_pos (by omega)]
      exact f_eq (by omega)
    · rw [z_ro_ne _ _ (by omega), z_ro_ne _ _ (by omega), z_ro_ne _ _ (by omega), z_ro_ne _ _ (by omega)]
      unfold z_cpr
      rw [if_pos (by omega)]
      exact f_eq (by omega)
    · rw [z_ro_ne _ _ (by omega), z_ro_ne _ _ (by omega), z_ro_ne _ _ (by omega), z_ro_eq]
    · rw [z_ro_ne _ _ (by omega), z_ro_ne _ _ (by omega), z_ro_pos _ _ (by omega)]
    · rw [z_ro_ne _ _ (by omega), z_ro_pos _ _ (by omega)]
    · rw [z_ro_pos _ _ (by omega)]

/-- the present rows beside a model row give the bounds of the class's own -/
theorem dw_b7 {A : Int → Int} {G : ZG} (h : c_nw A G) : (0 ≤ G 25 1 ∧ G 25 1 < 30) ∧ (0 ≤ G 25 2 ∧ G 25 2 ≤ 30) := ⟨h.2.2.2.2.2.2.1, by rw [dw_t h]; exact h.1.2.2.2.2.2.2.2.1⟩
theorem d_be (d b_ : Nat) {T : ZT} {G : ZG} (hE : ∃ A, c_nw A G) {p w : Int} (hp : i_in p) (hw : i_in w) : z_dd True T G (fun σ => z_call (d + 4) 134 [vr 65, vi (iI p), vi (iI w)] σ) (fun σ => z_call (b_ + 3) 136 [vr 80, vi (iI p), vi (iI w)] σ) := by
  obtain ⟨A0, hC0⟩ := hE
  have q0 := (dw_h hC0).2.1
  have m10 := hC0.1.2.1
  by_cases c1 : (0 ≤ p ∧ p ≤ G 11 3 - 1) ∧ (0 ≤ w ∧ w ≤ 2) ∧ G 22 p ≠ w
  · obtain ⟨c1, c2, c3⟩ := c1
    have o0 := (dw_o hC0 p c1.1 (by omega)).2
    have h0 := mo_p hC0.1 p c1.1 (by omega)
    have wi : i_in (G 22 p) := by rw [o0]; exact ⟨by omega, by omega⟩
    obtain ⟨W, ek, hW⟩ := p_ckeepA d T G (dw_b7 hC0).1 (dw_b7 hC0).2
    refine ⟨iI 1, z_up (z_up (z_up G 22 (z_ro (G 22) p w)) 25 (z_ro (z_ro (G 25) 1 ((G 25 1 + 1) % 30)) 2 (if G 25 2 < 30 then G 25 2 + 1 else G 25 2))) 26 W, fun _ => zb_fit1, fun s => ?_, fun r a => ?_, ?_⟩
    · dsimp only
      rw [e_De_turns]
      simp -implicitDefEqProofs (disch := first | assumption | omega | rfl | (simp only [z_up_eq, z_up_app, ↓reduceIte, Nat.reduceEqDiff]; omega)) only [z_lit0, z_lit1, z_lit2, z_litl, iI_add, iI_sub, iI_mul, iI_neg, iI_and, iI_or, iI_xor, iI_shl, iI_shr, iI_ushr, iI_div, iI_b, iI_c, iI_i2l, lI_l2i, lI_add, lI_sub, lI_mul, lI_neg, lI_div, lI_or, lI_and, lI_shl, lI_shr, nI_iI, lg_lt0, lg_gt0, lg_eq0, i_ne0', l_ne0', iI_lt, iI_le, iI_eq, lI_lt, lI_le, lI_eq, zb_0, zb_fit, zb_fit0, zb_fit1, i_one_zero, i_w_in, z_tb0, z_tb1, z_tb2, z_tb3, z_tb4, z_tb5, z_tb6, z_tb7, z_tb8, z_tbl, z_tu0, z_tu1, z_tu2, z_i_62, z_i_63, z_i_86, z_i_88, z_l_Y, z_ui_62, z_ui_63, z_ui_86, z_ui_88, z_ul_Y, z_sz_Y, z_sw_Y, iI_nat, z_ix_t, z_at, Int.add_zero, Int.sub_zero, Int.zero_add, Int.mul_zero, ne_eq, Bool.false_eq_true, Bool.true_eq_false, reduceCtorEq, eq_self, and_true, true_and, and_false, false_and, and_self, not_true_eq_false, not_false_eq_true, decide_true, decide_false, ↓reduceIte, Int.reduceEq, Int.reduceNe, Int.reduceLT, Int.reduceLE, Int.reduceAdd, Int.reduceSub, Int.reduceMul, Int.reduceNeg, Nat.reduceAdd, Nat.reduceEqDiff, Nat.reduceBEq, ↓z_x_eq, z_g_t, z_bI_s, z_bL_s, z_bR_s, z_bV_s, Int.cast_ofNat_Int, beq_self_eq_true, Bool.and_true, Bool.true_and, Bool.and_self, Bool.or_true, Bool.true_or, Bool.false_and, Bool.and_false, Bool.false_or, Bool.or_false, Bool.not_false, Bool.not_true, if_true, if_false, ite_true, ite_false, z_up_eq, z_up_app, z_ro_eq, p_hasPerson, c1, zb_t, p_within, c2, c3, ek, z_up_cm]
      exact ok_q
    · rw [z_up_ne _ _ (show r ≠ 26 by omega), z_up_ne _ _ (show r ≠ 25 by omega), z_up_ne _ _ (show r ≠ 22 by omega)]
    · intro A Gm s hC e hq e83
      have q := (dw_h hC).2.1
      have m0 := hC.1.1
      have m1 := hC.1.2.1
      have m7 := hC.1.2.2.2.2.2.2.2.1
      rw [q] at c1
      have hp' : 0 ≤ p ∧ p < A 1 := ⟨c1.1, by omega⟩
      have mp := mo_p hC.1 p hp'.1 hp'.2
      have o := (dw_o hC p hp'.1 hp'.2).2
      have c3' : A (32 + 5 * p + 4) ≠ w := by rw [← o]; exact c3
      obtain ⟨B, R, em, k1, k2⟩ := p_mkeep b_ T Gm s (by rw [e]; exact m7)
      rw [e] at k2
      have hK := K_keep hC hW k1 k2
      have b7 : 0 ≤ B 7 ∧ B 7 ≤ 29 := by
        rcases k2 with ⟨e, f⟩ | ⟨e, f⟩
        · rw [e]; omega
        · have := e.2.1; omega
      have pi := p_isPerson b_ T Gm s (x := p) ⟨hp, by rw [e]; exact m1⟩
      rw [e] at pi
      dsimp only
      rw [e_M_be]
      simp -implicitDefEqProofs (disch := first | assumption | omega | rfl | (simp only [z_up_eq, z_up_app, ↓reduceIte, Nat.reduceEqDiff]; omega)) only [z_lit0, z_lit1, z_lit2, z_litl, iI_add, iI_sub, iI_mul, iI_neg, iI_and, iI_or, iI_xor, iI_shl, iI_shr, iI_ushr, iI_div, iI_b, iI_c, iI_i2l, lI_l2i, lI_add, lI_sub, lI_mul, lI_neg, lI_div, lI_or, lI_and, lI_shl, lI_shr, nI_iI, lg_lt0, lg_gt0, lg_eq0, i_ne0', l_ne0', iI_lt, iI_le, iI_eq, lI_lt, lI_le, lI_eq, zb_0, zb_fit, zb_fit0, zb_fit1, i_one_zero, i_w_in, z_tb0, z_tb1, z_tb2, z_tb3, z_tb4, z_tb5, z_tb6, z_tb7, z_tb8, z_tbl, z_tu0, z_tu1, z_tu2, z_i_62, z_i_63, z_i_86, z_i_88, z_l_Y, z_ui_62, z_ui_63, z_ui_86, z_ui_88, z_ul_Y, z_sz_Y, z_sw_Y, iI_nat, z_ix_t, z_at, Int.add_zero, Int.sub_zero, Int.zero_add, Int.mul_zero, ne_eq, Bool.false_eq_true, Bool.true_eq_false, reduceCtorEq, eq_self, and_true, true_and, and_false, false_and, and_self, not_true_eq_false, not_false_eq_true, decide_true, decide_false, ↓reduceIte, Int.reduceEq, Int.reduceNe, Int.reduceLT, Int.reduceLE, Int.reduceAdd, Int.reduceSub, Int.reduceMul, Int.reduceNeg, Nat.reduceAdd, Nat.reduceEqDiff, Nat.reduceBEq, ↓z_x_eq, z_g_t, z_bI_s, z_bL_s, z_bR_s, z_bV_s, Int.cast_ofNat_Int, beq_self_eq_true, Bool.and_true, Bool.true_and, Bool.and_self, Bool.or_true, Bool.true_or, Bool.false_and, Bool.and_false, Bool.false_or, Bool.or_false, Bool.not_false, Bool.not_true, if_true, if_false, ite_true, ite_false, z_up_eq, z_up_app, z_ro_eq, pi, c1, zb_t, p_isIn, c2, p_get, e, c3', em, p_set, z_up_up]
      refine ok_ret ⟨rfl, _, s, rfl, ?_, ?_⟩
      · have a1 : z_ro R 7 (B 7 + 1) 1 = A 1 := by
          have := (dw_h hK).2.1
          rw [z_up_ne _ _ (by omega), z_up_ne _ _ (by omega)] at this
          rw [← this]; exact q
        have oo := dw_o hK
        have uu := dw_u hK
        have mm := dw_m hK
        rw [a1] at oo uu
        rw [z_up_ne _ _ (show 21 ≠ 26 by omega), z_up_ne _ _ (show 21 ≠ 25 by omega), z_up_ne _ _ (show 22 ≠ 26 by omega), z_up_ne _ _ (show 22 ≠ 25 by omega)] at oo uu
        rw [z_up_ne _ _ (show 20 ≠ 26 by omega), z_up_ne _ _ (show 20 ≠ 25 by omega)] at mm
        generalize z_ro R 7 (B 7 + 1) = A1 at *
        have hag := ag_p (v := w) (ag_id A1) (p := p) (w := 4) ⟨hp'.1, by omega⟩ (by omega)
        refine D_mo hK (fun r x1 x2 x3 => ?_) hag (fun k x1 x2 x3 => z_ro_ne _ _ (by omega)) (ag_how hK.1 ⟨hp'.1, by rw [a1]; exact hp'.2⟩ c2) ?_ (fun r x1 x2 => z_ro_ne _ _ (by omega)) ?_ (fun r x1 x2 => ?_) (fun r x1 x2 => ?_)
        · by_cases f : r = 26
          · rw [f, z_up_eq, z_up_eq]
          · rw [z_up_ne _ _ f, z_up_ne _ _ f]
            by_cases f2 : r = 25
            · rw [f2, z_up_eq, z_up_eq]
            · rw [z_up_ne _ _ f2, z_up_ne _ _ f2, z_up_ne _ _ x3]
        · intro x y x1 x2 x3 x4 x5
          rw [z_ro_ne _ _ (by omega)] at x2 x4
          rw [z_ro_ne _ _ (by omega), z_ro_ne _ _ (by omega)] at x5
          rw [z_ro_ne _ _ (by omega)]
          exact hK.2.1 x y x1 x2 x3 x4 x5
        · rw [z_up_ne _ _ (show 20 ≠ 26 by omega), z_up_ne _ _ (show 20 ≠ 25 by omega), z_up_ne _ _ (show 20 ≠ 22 by omega), z_ro_ne _ _ (by omega), z_ro_ne _ _ (by omega)]
          exact mm
        · rw [a1] at x2
          rw [z_up_ne _ _ (show 21 ≠ 26 by omega), z_up_ne _ _ (show 21 ≠ 25 by omega), z_up_ne _ _ (show 21 ≠ 22 by omega), z_up_ne _ _ (show 22 ≠ 26 by omega), z_up_ne _ _ (show 22 ≠ 25 by omega), z_up_eq, z_ro_ne _ _ (show 32 + 5 * r + 3 ≠ 32 + 5 * p + 4 by omega)]
          refine ⟨(oo r x1 x2).1, ?_⟩
          by_cases f : r = p
          · rw [f, z_ro_eq, z_ro_eq]
          · rw [z_ro_ne _ _ f, z_ro_ne _ _ (by omega)]; exact (oo r x1 x2).2
        · rw [a1] at x1
          rw [z_up_ne _ _ (show 21 ≠ 26 by omega), z_up_ne _ _ (show 21 ≠ 25 by omega), z_up_ne _ _ (show 21 ≠ 22 by omega), z_up_ne _ _ (show 22 ≠ 26 by omega), z_up_ne _ _ (show 22 ≠ 25 by omega), z_up_eq, z_ro_ne _ _ (by omega)]
          exact uu r x1 x2
      · rw [z_ro_ne _ _ (by omega), z_ro_ne _ _ (by omega)]
        have := (dw_h hK).2.2.2.1
        rw [z_up_ne _ _ (by omega), z_up_ne _ _ (by omega), z_ro_ne _ _ (by omega)] at this
        rw [← this]; exact (dw_h hC).2.2.2.1
  · refine dd_same (iI 0) (fun _ => zb_fit0) (fun s => ?_) ?_
    · rw [e_De_turns]
      by_cases d1 : 0 ≤ p ∧ p ≤ G 11 3 - 1
      · by_cases d2 : 0 ≤ w ∧ w ≤ 2
        · have d3 : (G 22 p = w) = True := eq_true (by
            by_cases f : G 22 p = w
            · exact f
            · exact absurd ⟨d1, d2, f⟩ c1)
          have o0 := (dw_o hC0 p d1.1 (by omega)).2
          have h0 := mo_p hC0.1 p d1.1 (by omega)
          have wi : i_in (G 22 p) := by rw [o0]; exact ⟨by omega, by omega⟩
          simp -implicitDefEqProofs (disch := first | assumption | omega | rfl | (simp only [z_up_eq, z_up_app, ↓reduceIte, Nat.reduceEqDiff]; omega)) only [z_lit0, z_lit1, z_lit2, z_litl, iI_add, iI_sub, iI_mul, iI_neg, iI_and, iI_or, iI_xor, iI_shl, iI_shr, iI_ushr, iI_div, iI_b, iI_c, iI_i2l, lI_l2i, lI_add, lI_sub, lI_mul, lI_neg, lI_div, lI_or, lI_and, lI_shl, lI_shr, nI_iI, lg_lt0, lg_gt0, lg_eq0, i_ne0', l_ne0', iI_lt, iI_le, iI_eq, lI_lt, lI_le, lI_eq, zb_0, zb_fit, zb_fit0, zb_fit1, i_one_zero, i_w_in, z_tb0, z_tb1, z_tb2, z_tb3, z_tb4, z_tb5, z_tb6, z_tb7, z_tb8, z_tbl, z_tu0, z_tu1, z_tu2, z_i_62, z_i_63, z_i_86, z_i_88, z_l_Y, z_ui_62, z_ui_63, z_ui_86, z_ui_88, z_ul_Y, z_sz_Y, z_sw_Y, iI_nat, z_ix_t, z_at, Int.add_zero, Int.sub_zero, Int.zero_add, Int.mul_zero, ne_eq, Bool.false_eq_true, Bool.true_eq_false, reduceCtorEq, eq_self, and_true, true_and, and_false, false_and, and_self, not_true_eq_false, not_false_eq_true, decide_true, decide_false, ↓reduceIte, Int.reduceEq, Int.reduceNe, Int.reduceLT, Int.reduceLE, Int.reduceAdd, Int.reduceSub, Int.reduceMul, Int.reduceNeg, Nat.reduceAdd, Nat.reduceEqDiff, Nat.reduceBEq, ↓z_x_eq, z_g_t, z_bI_s, z_bL_s, z_bR_s, z_bV_s, Int.cast_ofNat_Int, beq_self_eq_true, Bool.and_true, Bool.true_and, Bool.and_self, Bool.or_true, Bool.true_or, Bool.false_and, Bool.and_false, Bool.false_or, Bool.or_false, Bool.not_false, Bool.not_true, if_true, if_false, ite_true, ite_false, z_up_eq, z_up_app, z_ro_eq, p_hasPerson, d1, zb_t, p_within, d2, d3]
          exact ok_q
        · simp -implicitDefEqProofs (disch := first | assumption | omega | rfl | (simp only [z_up_eq, z_up_app, ↓reduceIte, Nat.reduceEqDiff]; omega)) only [z_lit0, z_lit1, z_lit2, z_litl, iI_add, iI_sub, iI_mul, iI_neg, iI_and, iI_or, iI_xor, iI_shl, iI_shr, iI_ushr, iI_div, iI_b, iI_c, iI_i2l, lI_l2i, lI_add, lI_sub, lI_mul, lI_neg, lI_div, lI_or, lI_and, lI_shl, lI_shr, nI_iI, lg_lt0, lg_gt0, lg_eq0, i_ne0', l_ne0', iI_lt, iI_le, iI_eq, lI_lt, lI_le, lI_eq, zb_0, zb_fit, zb_fit0, zb_fit1, i_one_zero, i_w_in, z_tb0, z_tb1, z_tb2, z_tb3, z_tb4, z_tb5, z_tb6, z_tb7, z_tb8, z_tbl, z_tu0, z_tu1, z_tu2, z_i_62, z_i_63, z_i_86, z_i_88, z_l_Y, z_ui_62, z_ui_63, z_ui_86, z_ui_88, z_ul_Y, z_sz_Y, z_sw_Y, iI_nat, z_ix_t, z_at, Int.add_zero, Int.sub_zero, Int.zero_add, Int.mul_zero, ne_eq, Bool.false_eq_true, Bool.true_eq_false, reduceCtorEq, eq_self, and_true, true_and, and_false, false_and, and_self, not_true_eq_false, not_false_eq_true, decide_true, decide_false, ↓reduceIte, Int.reduceEq, Int.reduceNe, Int.reduceLT, Int.reduceLE, Int.reduceAdd, Int.reduceSub, Int.reduceMul, Int.reduceNeg, Nat.reduceAdd, Nat.reduceEqDiff, Nat.reduceBEq, ↓z_x_eq, z_g_t, z_bI_s, z_bL_s, z_bR_s, z_bV_s, Int.cast_ofNat_Int, beq_self_eq_true, Bool.and_true, Bool.true_and, Bool.and_self, Bool.or_true, Bool.true_or, Bool.false_and, Bool.and_false, Bool.false_or, Bool.or_false, Bool.not_false, Bool.not_true, if_true, if_false, ite_true, ite_false, z_up_eq, z_up_app, z_ro_eq, p_hasPerson, d1, zb_t, p_within, d2, zb_f]
          exact ok_q
      · simp -implicitDefEqProofs (disch := first | assumption | omega | rfl | (simp only [z_up_eq, z_up_app, ↓reduceIte, Nat.reduceEqDiff]; omega)) only [z_lit0, z_lit1, z_lit2, z_litl, iI_add, iI_sub, iI_mul, iI_neg, iI_and, iI_or, iI_xor, iI_shl, iI_shr, iI_ushr, iI_div, iI_b, iI_c, iI_i2l, lI_l2i, lI_add, lI_sub, lI_mul, lI_neg, lI_div, lI_or, lI_and, lI_shl, lI_shr, nI_iI, lg_lt0, lg_gt0, lg_eq0, i_ne0', l_ne0', iI_lt, iI_le, iI_eq, lI_lt, lI_le, lI_eq, zb_0, zb_fit, zb_fit0, zb_fit1, i_one_zero, i_w_in, z_tb0, z_tb1, z_tb2, z_tb3, z_tb4, z_tb5, z_tb6, z_tb7, z_tb8, z_tbl, z_tu0, z_tu1, z_tu2, z_i_62, z_i_63, z_i_86, z_i_88, z_l_Y, z_ui_62, z_ui_63, z_ui_86, z_ui_88, z_ul_Y, z_sz_Y, z_sw_Y, iI_nat, z_ix_t, z_at, Int.add_zero, Int.sub_zero, Int.zero_add, Int.mul_zero, ne_eq, Bool.false_eq_true, Bool.true_eq_false, reduceCtorEq, eq_self, and_true, true_and, and_false, false_and, and_self, not_true_eq_false, not_false_eq_true, decide_true, decide_false, ↓reduceIte, Int.reduceEq, Int.reduceNe, Int.reduceLT, Int.reduceLE, Int.reduceAdd, Int.reduceSub, Int.reduceMul, Int.reduceNeg, Nat.reduceAdd, Nat.reduceEqDiff, Nat.reduceBEq, ↓z_x_eq, z_g_t, z_bI_s, z_bL_s, z_bR_s, z_bV_s, Int.cast_ofNat_Int, beq_self_eq_true, Bool.and_true, Bool.true_and, Bool.and_self, Bool.or_true, Bool.true_or, Bool.false_and, Bool.and_false, Bool.false_or, Bool.or_false, Bool.not_false, Bool.not_true, if_true, if_false, ite_true, ite_false, z_up_eq, z_up_app, z_ro_eq, p_hasPerson, d1, zb_f]
        exact ok_q
    · intro A Gm s hC e hq e83
      have q := (dw_h hC).2.1
      have m1 := hC.1.2.1
      rw [q] at c1
      have pi := p_isPerson b_ T Gm s (x := p) ⟨hp, by rw [e]; exact m1⟩
      rw [e] at pi
      rw [e_M_be]
      by_cases d1 : 0 ≤ p ∧ p ≤ A 1 - 1
      · by_cases d2 : 0 ≤ w ∧ w ≤ 2
        · have o := (dw_o hC p d1.1 (by omega)).2
          have h0 := mo_p hC.1 p d1.1 (by omega)
          have d3 : (A (32 + 5 * p + 4) = w) = True := eq_true (by
            by_cases f : G 22 p = w
            · rw [← o]; exact f
            · exact absurd ⟨d1, d2, f⟩ c1)
          simp -implicitDefEqProofs (disch := first | assumption | omega | rfl | (simp only [z_up_eq, z_up_app, ↓reduceIte, Nat.reduceEqDiff]; omega)) only [z_lit0, z_lit1, z_lit2, z_litl, iI_add, iI_sub, iI_mul, iI_neg, iI_and, iI_or, iI_xor, iI_shl, iI_shr, iI_ushr, iI_div, iI_b, iI_c, iI_i2l, lI_l2i, lI_add, lI_sub, lI_mul, lI_neg, lI_div, lI_or, lI_and, lI_shl, lI_shr, nI_iI, lg_lt0, lg_gt0, lg_eq0, i_ne0', l_ne0', iI_lt, iI_le, iI_eq, lI_lt, lI_le, lI_eq, zb_0, zb_fit, zb_fit0, zb_fit1, i_one_zero, i_w_in, z_tb0, z_tb1, z_tb2, z_tb3, z_tb4, z_tb5, z_tb6, z_tb7, z_tb8, z_tbl, z_tu0, z_tu1, z_tu2, z_i_62, z_i_63, z_i_86, z_i_88, z_l_Y, z_ui_62, z_ui_63, z_ui_86, z_ui_88, z_ul_Y, z_sz_Y, z_sw_Y, iI_nat, z_ix_t, z_at, Int.add_zero, Int.sub_zero, Int.zero_add, Int.mul_zero, ne_eq, Bool.false_eq_true, Bool.true_eq_false, reduceCtorEq, eq_self, and_true, true_and, and_false, false_and, and_self, not_true_eq_false, not_false_eq_true, decide_true, decide_false, ↓reduceIte, Int.reduceEq, Int.reduceNe, Int.reduceLT, Int.reduceLE, Int.reduceAdd, Int.reduceSub, Int.reduceMul, Int.reduceNeg, Nat.reduceAdd, Nat.reduceEqDiff, Nat.reduceBEq, ↓z_x_eq, z_g_t, z_bI_s, z_bL_s, z_bR_s, z_bV_s, Int.cast_ofNat_Int, beq_self_eq_true, Bool.and_true, Bool.true_and, Bool.and_self, Bool.or_true, Bool.true_or, Bool.false_and, Bool.and_false, Bool.false_or, Bool.or_false, Bool.not_false, Bool.not_true, if_true, if_false, ite_true, ite_false, z_up_eq, z_up_app, z_ro_eq, pi, d1, zb_t, p_isIn, d2, p_get, e, d3]
          exact ok_q
        · simp -implicitDefEqProofs (disch := first | assumption | omega | rfl | (simp only [z_up_eq, z_up_app, ↓reduceIte, Nat.reduceEqDiff]; omega)) only [z_lit0, z_lit1, z_lit2, z_litl, iI_add, iI_sub, iI_mul, iI_neg, iI_and, iI_or, iI_xor, iI_shl, iI_shr, iI_ushr, iI_div, iI_b, iI_c, iI_i2l, lI_l2i, lI_add, lI_sub, lI_mul, lI_neg, lI_div, lI_or, lI_and, lI_shl, lI_shr, nI_iI, lg_lt0, lg_gt0, lg_eq0, i_ne0', l_ne0', iI_lt, iI_le, iI_eq, lI_lt, lI_le, lI_eq, zb_0, zb_fit, zb_fit0, zb_fit1, i_one_zero, i_w_in, z_tb0, z_tb1, z_tb2, z_tb3, z_tb4, z_tb5, z_tb6, z_tb7, z_tb8, z_tbl, z_tu0, z_tu1, z_tu2, z_i_62, z_i_63, z_i_86, z_i_88, z_l_Y, z_ui_62, z_ui_63, z_ui_86, z_ui_88, z_ul_Y, z_sz_Y, z_sw_Y, iI_nat, z_ix_t, z_at, Int.add_zero, Int.sub_zero, Int.zero_add, Int.mul_zero, ne_eq, Bool.false_eq_true, Bool.true_eq_false, reduceCtorEq, eq_self, and_true, true_and, and_false, false_and, and_self, not_true_eq_false, not_false_eq_true, decide_true, decide_false, ↓reduceIte, Int.reduceEq, Int.reduceNe, Int.reduceLT, Int.reduceLE, Int.reduceAdd, Int.reduceSub, Int.reduceMul, Int.reduceNeg, Nat.reduceAdd, Nat.reduceEqDiff, Nat.reduceBEq, ↓z_x_eq, z_g_t, z_bI_s, z_bL_s, z_bR_s, z_bV_s, Int.cast_ofNat_Int, beq_self_eq_true, Bool.and_true, Bool.true_and, Bool.and_self, Bool.or_true, Bool.true_or, Bool.false_and, Bool.and_false, Bool.false_or, Bool.or_false, Bool.not_false, Bool.not_true, if_true, if_false, ite_true, ite_false, z_up_eq, z_up_app, z_ro_eq, pi, d1, zb_t, p_isIn, d2, zb_f]
          exact ok_q
      · simp -implicitDefEqProofs (disch := first | assumption | omega | rfl | (simp only [z_up_eq, z_up_app, ↓reduceIte, Nat.reduceEqDiff]; omega)) only [z_lit0, z_lit1, z_lit2, z_litl, iI_add, iI_sub, iI_mul, iI_neg, iI_and, iI_or, iI_xor, iI_shl, iI_shr, iI_ushr, iI_div, iI_b, iI_c, iI_i2l, lI_l2i, lI_add, lI_sub, lI_mul, lI_neg, lI_div, lI_or, lI_and, lI_shl, lI_shr, nI_iI, lg_lt0, lg_gt0, lg_eq0, i_ne0', l_ne0', iI_lt, iI_le, iI_eq, lI_lt, lI_le, lI_eq, zb_0, zb_fit, zb_fit0, zb_fit1, i_one_zero, i_w_in, z_tb0, z_tb1, z_tb2, z_tb3, z_tb4, z_tb5, z_tb6, z_tb7, z_tb8, z_tbl, z_tu0, z_tu1, z_tu2, z_i_62, z_i_63, z_i_86, z_i_88, z_l_Y, z_ui_62, z_ui_63, z_ui_86, z_ui_88, z_ul_Y, z_sz_Y, z_sw_Y, iI_nat, z_ix_t, z_at, Int.add_zero, Int.sub_zero, Int.zero_add, Int.mul_zero, ne_eq, Bool.false_eq_true, Bool.true_eq_false, reduceCtorEq, eq_self, and_true, true_and, and_false, false_and, and_self, not_true_eq_false, not_false_eq_true, decide_true, decide_false, ↓reduceIte, Int.reduceEq, Int.reduceNe, Int.reduceLT, Int.reduceLE, Int.reduceAdd, Int.reduceSub, Int.reduceMul, Int.reduceNeg, Nat.reduceAdd, Nat.reduceEqDiff, Nat.reduceBEq, ↓z_x_eq, z_g_t, z_bI_s, z_bL_s, z_bR_s, z_bV_s, Int.cast_ofNat_Int, beq_self_eq_true, Bool.and_true, Bool.true_and, Bool.and_self, Bool.or_true, Bool.true_or, Bool.false_and, Bool.and_false, Bool.false_or, Bool.or_false, Bool.not_false, Bool.not_true, if_true, if_false, ite_true, ite_false, z_up_eq, z_up_app, z_ro_eq, pi, d1, zb_f]
        exact ok_q

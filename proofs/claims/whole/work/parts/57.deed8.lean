/-! THE PURE PART, 37: change -/
theorem D_sw {A : Int → Int} {G : ZG} (hC : c_nw A G) {a b : Int} (ha : 0 ≤ a ∧ a < A 1) (hb : 0 ≤ b ∧ b < A 1) (hab : a ≠ b) : c_nw (z_ro (z_ro A (32 + 5 * a + 3) (A (32 + 5 * b + 3))) (32 + 5 * b + 3) (A (32 + 5 * a + 3))) (z_up G 21 (z_ro (z_ro (G 21) a (G 21 b)) b (G 21 a))) := by
  have m1 := hC.1.2.1
  have pa := (mo_p hC.1 a ha.1 ha.2).2.2.2.1
  have pb := (mo_p hC.1 b hb.1 hb.2).2.2.2.1
  have e1 : ∀ v, z_ro A (32 + 5 * a + 3) v 1 = A 1 := fun v => z_ro_ne _ _ (by omega)
  have e0 : ∀ v, z_ro A (32 + 5 * a + 3) v 0 = A 0 := fun v => z_ro_ne _ _ (by omega)
  have ea : z_ro (z_ro A (32 + 5 * a + 3) (A (32 + 5 * b + 3))) (32 + 5 * b + 3) (A (32 + 5 * a + 3)) (32 + 5 * a + 3) = A (32 + 5 * b + 3) := by
    rw [z_ro_ne _ _ (by omega), z_ro_eq]
  have eb : z_ro (z_ro A (32 + 5 * a + 3) (A (32 + 5 * b + 3))) (32 + 5 * b + 3) (A (32 + 5 * a + 3)) (32 + 5 * b + 3) = A (32 + 5 * a + 3) := by
    rw [z_ro_eq]
  have eo : ∀ k, k ≠ 32 + 5 * a + 3 → k ≠ 32 + 5 * b + 3 → z_ro (z_ro A (32 + 5 * a + 3) (A (32 + 5 * b + 3))) (32 + 5 * b + 3) (A (32 + 5 * a + 3)) k = A k := by
    intro k x y
    rw [z_ro_ne _ _ y, z_ro_ne _ _ x]
  have hok : m_ok (z_ro (z_ro A (32 + 5 * a + 3) (A (32 + 5 * b + 3))) (32 + 5 * b + 3) (A (32 + 5 * a + 3))) := ag_seat (ag_seat hC.1 ha (by omega)) (by rw [e1]; exact hb) (by rw [e0]; omega)
  have hag : m_ag A (z_ro (z_ro A (32 + 5 * a + 3) (A (32 + 5 * b + 3))) (32 + 5 * b + 3) (A (32 + 5 * a + 3))) := ag_p (ag_p (ag_id A) ⟨ha.1, by omega⟩ (by omega)) ⟨hb.1, by omega⟩ (by omega)
  have ga : z_ro (z_ro (G 21) a (G 21 b)) b (G 21 a) a = G 21 b := by rw [z_ro_ne _ _ hab, z_ro_eq]
  have gb : z_ro (z_ro (G 21) a (G 21 b)) b (G 21 a) b = G 21 a := by rw [z_ro_eq]
  have go : ∀ k, k ≠ a → k ≠ b → z_ro (z_ro (G 21) a (G 21 b)) b (G 21 a) k = G 21 k := by
    intro k x y
    rw [z_ro_ne _ _ y, z_ro_ne _ _ x]
  generalize z_ro (z_ro A (32 + 5 * a + 3) (A (32 + 5 * b + 3))) (32 + 5 * b + 3) (A (32 + 5 * a + 3)) = A' at *
  generalize z_ro (z_ro (G 21) a (G 21 b)) b (G 21 a) = W at *
  refine D_mo hC (fun r x1 x2 x3 => z_up_ne _ _ x2) hag (fun k x1 x2 x3 => eo k (by omega) (by omega)) hok ?_ (fun r x1 x2 => eo _ (by omega) (by omega)) ?_ (fun r x1 x2 => ?_) (fun r x1 x2 => ?_)
  · have sw : ∀ x, 0 ≤ x → x < A 1 → ∃ y, 0 ≤ y ∧ y < A 1 ∧ A' (32 + 5 * x + 3) = A (32 + 5 * y + 3) ∧ (x = a ∧ y = b ∨ x = b ∧ y = a ∨ x ≠ a ∧ x ≠ b ∧ y = x) := by
      intro x x1 x2
      by_cases ca : x = a
      · exact ⟨b, hb.1, hb.2, by rw [ca]; exact ea, Or.inl ⟨ca, rfl⟩⟩
      · by_cases cb : x = b
        · exact ⟨a, ha.1, ha.2, by rw [cb]; exact eb, Or.inr (Or.inl ⟨cb, rfl⟩)⟩
        · exact ⟨x, x1, x2, eo _ (by omega) (by omega), Or.inr (Or.inr ⟨ca, cb, rfl⟩)⟩
    intro x y x1 x2 y1 y2 e
    rw [eo 1 (by omega) (by omega)] at x2 y2
    obtain ⟨x', f1, f2, f3, f4⟩ := sw x x1 x2
    obtain ⟨y', g1, g2, g3, g4⟩ := sw y y1 y2
    rw [f3, g3] at e
    rw [f3]
    rcases hC.2.1 x' y' f1 f2 g1 g2 e with h | h
    · left; omega
    · exact Or.inr h
  · rw [z_up_ne _ _ (show 20 ≠ 21 by omega), eo _ (by omega) (by omega), eo _ (by omega) (by omega)]
    exact dw_m hC
  · rw [z_up_eq, z_up_ne _ _ (show 22 ≠ 21 by omega), eo (32 + 5 * r + 4) (by omega) (by omega)]
    refine ⟨?_, (dw_o hC r x1 x2).2⟩
    by_cases f : r = a
    · rw [f, ga, ea]; exact (dw_o hC b hb.1 hb.2).1
    · by_cases f2 : r = b
      · rw [f2, gb, eb]; exact (dw_o hC a ha.1 ha.2).1
      · rw [go r f f2, eo _ (by omega) (by omega)]; exact (dw_o hC r x1 x2).1
  · rw [z_up_eq, z_up_ne _ _ (show 22 ≠ 21 by omega), go r (by omega) (by omega)]
    exact dw_u hC r x1 x2
theorem d_change (d b_ : Nat) {T : ZT} {G : ZG} (hE : ∃ A, c_nw A G) {p x : Int} (hp : i_in p) (hx : i_in x) : z_dd True T G (fun σ => z_call (d + 4) 131 [vr 65, vi (iI p), vi (iI x)] σ) (fun σ => z_call (b_ + 3) 133 [vr 80, vi (iI p), vi (iI x)] σ) := by
  obtain ⟨A0, hC0⟩ := hE
  have q0 := (dw_h hC0).2.1
  have m10 := hC0.1.2.1
  have hat := k_at_in hC0
  by_cases c1 : (0 ≤ p ∧ p ≤ G 11 3 - 1) ∧ (0 ≤ x ∧ x ≤ G 11 3 - 1) ∧ p ≠ x ∧ G 21 p ≠ -1 ∧ G 21 x ≠ -1
  · obtain ⟨c1, c2, c3, c4, c5⟩ := c1
    have wp := hat p c1.1 (by omega)
    have wx := hat x c2.1 (by omega)
    obtain ⟨W, ek, hW⟩ := p_ckeepA d T G (dw_b7 hC0).1 (dw_b7 hC0).2
    refine ⟨iI 1, z_up (z_up (z_up G 21 (z_ro (z_ro (G 21) p (G 21 x)) x (G 21 p))) 25 (z_ro (z_ro (G 25) 1 ((G 25 1 + 1) % 30)) 2 (if G 25 2 < 30 then G 25 2 + 1 else G 25 2))) 26 W, fun _ => zb_fit1, fun s => ?_, fun r a => ?_, ?_⟩
    · dsimp only
      rw [e_De_swaps]
      simp -implicitDefEqProofs (disch := first | assumption | omega | rfl | (simp only [z_up_eq, z_up_app, ↓reduceIte, Nat.reduceEqDiff]; omega)) only [z_lit0, z_lit1, z_lit2, z_litl, iI_add, iI_sub, iI_mul, iI_neg, iI_and, iI_or, iI_xor, iI_shl, iI_shr, iI_ushr, iI_div, iI_b, iI_c, iI_i2l, lI_l2i, lI_add, lI_sub, lI_mul, lI_neg, lI_div, lI_or, lI_and, lI_shl, lI_shr, nI_iI, lg_lt0, lg_gt0, lg_eq0, i_ne0', l_ne0', iI_lt, iI_le, iI_eq, lI_lt, lI_le, lI_eq, zb_0, zb_fit, zb_fit0, zb_fit1, i_one_zero, i_w_in, z_tb0, z_tb1, z_tb2, z_tb3, z_tb4, z_tb5, z_tb6, z_tb7, z_tb8, z_tbl, z_tu0, z_tu1, z_tu2, z_i_62, z_i_63, z_i_86, z_i_88, z_l_Y, z_ui_62, z_ui_63, z_ui_86, z_ui_88, z_ul_Y, z_sz_Y, z_sw_Y, iI_nat, z_ix_t, z_at, Int.add_zero, Int.sub_zero, Int.zero_add, Int.mul_zero, ne_eq, Bool.false_eq_true, Bool.true_eq_false, reduceCtorEq, eq_self, and_true, true_and, and_false, false_and, and_self, not_true_eq_false, not_false_eq_true, decide_true, decide_false, ↓reduceIte, Int.reduceEq, Int.reduceNe, Int.reduceLT, Int.reduceLE, Int.reduceAdd, Int.reduceSub, Int.reduceMul, Int.reduceNeg, Nat.reduceAdd, Nat.reduceEqDiff, Nat.reduceBEq, ↓z_x_eq, z_g_t, z_bI_s, z_bL_s, z_bR_s, z_bV_s, Int.cast_ofNat_Int, beq_self_eq_true, Bool.and_true, Bool.true_and, Bool.and_self, Bool.or_true, Bool.true_or, Bool.false_and, Bool.and_false, Bool.false_or, Bool.or_false, Bool.not_false, Bool.not_true, if_true, if_false, ite_true, ite_false, z_up_eq, z_up_app, z_ro_eq, p_hasPerson, c1, zb_t, c2, c3, c4, c5, ek, z_up_cm, z_up_up]
      exact ok_q
    · rw [z_up_ne _ _ (show r ≠ 26 by omega), z_up_ne _ _ (show r ≠ 25 by omega), z_up_ne _ _ (show r ≠ 21 by omega)]
    · intro A Gm s hC e hq e83
      have q := (dw_h hC).2.1
      have m0 := hC.1.1
      have m1 := hC.1.2.1
      have m7 := hC.1.2.2.2.2.2.2.2.1
      rw [q] at c1 c2
      have hp' : 0 ≤ p ∧ p < A 1 := ⟨c1.1, by omega⟩
      have hx' : 0 ≤ x ∧ x < A 1 := ⟨c2.1, by omega⟩
      have mp := mo_p hC.1 p hp'.1 hp'.2
      have mx := mo_p hC.1 x hx'.1 hx'.2
      have c4' : A (32 + 5 * p + 3) ≠ -1 := by rw [← (dw_o hC p hp'.1 hp'.2).1]; exact c4
      have c5' : A (32 + 5 * x + 3) ≠ -1 := by rw [← (dw_o hC x hx'.1 hx'.2).1]; exact c5
      obtain ⟨B, R, em, k1, k2⟩ := p_mkeep b_ T Gm s (by rw [e]; exact m7)
      rw [e] at k2
      have hK := K_keep hC hW k1 k2
      have pi := p_isPerson b_ T Gm s (x := p) ⟨hp, by rw [e]; exact m1⟩
      rw [e] at pi
      have px := p_isPerson b_ T Gm s (x := x) ⟨hx, by rw [e]; exact m1⟩
      rw [e] at px
      have a1 : z_ro R 7 (B 7 + 1) 1 = A 1 := by
        have := (dw_h hK).2.1
        rw [z_up_ne _ _ (by omega), z_up_ne _ _ (by omega)] at this
        rw [← this]; exact q
      have a5 : z_ro R 7 (B 7 + 1) 5 = A 5 := by
        have := (dw_h hK).2.2.2.1
        rw [z_up_ne _ _ (by omega), z_up_ne _ _ (by omega)] at this
        rw [← this]; exact (dw_h hC).2.2.2.1
      have fin := D_sw hK (a := p) (b := x) (by rw [a1]; exact hp') (by rw [a1]; exact hx') c3
      rw [z_up_ne _ _ (show 21 ≠ 26 by omega), z_up_ne _ _ (show 21 ≠ 25 by omega), z_up_cm _ _ _ (show 21 < 26 by omega), z_up_cm _ _ _ (show 21 < 25 by omega)] at fin
      have np := mo_p hK.1 p hp'.1 (by rw [a1]; exact hp'.2)
      have nx := mo_p hK.1 x hx'.1 (by rw [a1]; exact hx'.2)
      have n0 := hK.1.1
      dsimp only
      rw [e_M_change]
      generalize z_ro R 7 (B 7 + 1) = A1 at *
      simp -implicitDefEqProofs (disch := first | assumption | omega | rfl | (simp only [z_up_eq, z_up_app, ↓reduceIte, Nat.reduceEqDiff]; omega)) only [z_lit0, z_lit1, z_lit2, z_litl, iI_add, iI_sub, iI_mul, iI_neg, iI_and, iI_or, iI_xor, iI_shl, iI_shr, iI_ushr, iI_div, iI_b, iI_c, iI_i2l, lI_l2i, lI_add, lI_sub, lI_mul, lI_neg, lI_div, lI_or, lI_and, lI_shl, lI_shr, nI_iI, lg_lt0, lg_gt0, lg_eq0, i_ne0', l_ne0', iI_lt, iI_le, iI_eq, lI_lt, lI_le, lI_eq, zb_0, zb_fit, zb_fit0, zb_fit1, i_one_zero, i_w_in, z_tb0, z_tb1, z_tb2, z_tb3, z_tb4, z_tb5, z_tb6, z_tb7, z_tb8, z_tbl, z_tu0, z_tu1, z_tu2, z_i_62, z_i_63, z_i_86, z_i_88, z_l_Y, z_ui_62, z_ui_63, z_ui_86, z_ui_88, z_ul_Y, z_sz_Y, z_sw_Y, iI_nat, z_ix_t, z_at, Int.add_zero, Int.sub_zero, Int.zero_add, Int.mul_zero, ne_eq, Bool.false_eq_true, Bool.true_eq_false, reduceCtorEq, eq_self, and_true, true_and, and_false, false_and, and_self, not_true_eq_false, not_false_eq_true, decide_true, decide_false, ↓reduceIte, Int.reduceEq, Int.reduceNe, Int.reduceLT, Int.reduceLE, Int.reduceAdd, Int.reduceSub, Int.reduceMul, Int.reduceNeg, Nat.reduceAdd, Nat.reduceEqDiff, Nat.reduceBEq, ↓z_x_eq, z_g_t, z_bI_s, z_bL_s, z_bR_s, z_bV_s, Int.cast_ofNat_Int, beq_self_eq_true, Bool.and_true, Bool.true_and, Bool.and_self, Bool.or_true, Bool.true_or, Bool.false_and, Bool.and_false, Bool.false_or, Bool.or_false, Bool.not_false, Bool.not_true, if_true, if_false, ite_true, ite_false, z_up_eq, z_up_app, z_ro_eq, pi, px, c1, c2, zb_t, c3, p_get, e, c4', c5', em, p_set, z_up_up]
      exact ok_ret ⟨rfl, _, s, rfl, fin, by rw [z_ro_ne _ _ (by omega), z_ro_ne _ _ (by omega)]; exact a5⟩
  · refine dd_same (iI 0) (fun _ => zb_fit0) (fun s => ?_) ?_
    · rw [e_De_swaps]
      by_cases d1 : 0 ≤ p ∧ p ≤ G 11 3 - 1
      · have wp := hat p d1.1 (by omega)
        by_cases d2 : 0 ≤ x ∧ x ≤ G 11 3 - 1
        · have wx := hat x d2.1 (by omega)
          by_cases d3 : p = x
          · simp -implicitDefEqProofs (disch := first | assumption | omega | rfl | (simp only [z_up_eq, z_up_app, ↓reduceIte, Nat.reduceEqDiff]; omega)) only [z_lit0, z_lit1, z_lit2, z_litl, iI_add, iI_sub, iI_mul, iI_neg, iI_and, iI_or, iI_xor, iI_shl, iI_shr, iI_ushr, iI_div, iI_b, iI_c, iI_i2l, lI_l2i, lI_add, lI_sub, lI_mul, lI_neg, lI_div, lI_or, lI_and, lI_shl, lI_shr, nI_iI, lg_lt0, lg_gt0, lg_eq0, i_ne0', l_ne0', iI_lt, iI_le, iI_eq, lI_lt, lI_le, lI_eq, zb_0, zb_fit, zb_fit0, zb_fit1, i_one_zero, i_w_in, z_tb0, z_tb1, z_tb2, z_tb3, z_tb4, z_tb5, z_tb6, z_tb7, z_tb8, z_tbl, z_tu0, z_tu1, z_tu2, z_i_62, z_i_63, z_i_86, z_i_88, z_l_Y, z_ui_62, z_ui_63, z_ui_86, z_ui_88, z_ul_Y, z_sz_Y, z_sw_Y, iI_nat, z_ix_t, z_at, Int.add_zero, Int.sub_zero, Int.zero_add, Int.mul_zero, ne_eq, Bool.false_eq_true, Bool.true_eq_false, reduceCtorEq, eq_self, and_true, true_and, and_false, false_and, and_self, not_true_eq_false, not_false_eq_true, decide_true, decide_false, ↓reduceIte, Int.reduceEq, Int.reduceNe, Int.reduceLT, Int.reduceLE, Int.reduceAdd, Int.reduceSub, Int.reduceMul, Int.reduceNeg, Nat.reduceAdd, Nat.reduceEqDiff, Nat.reduceBEq, ↓z_x_eq, z_g_t, z_bI_s, z_bL_s, z_bR_s, z_bV_s, Int.cast_ofNat_Int, beq_self_eq_true, Bool.and_true, Bool.true_and, Bool.and_self, Bool.or_true, Bool.true_or, Bool.false_and, Bool.and_false, Bool.false_or, Bool.or_false, Bool.not_false, Bool.not_true, if_true, if_false, ite_true, ite_false, z_up_eq, z_up_app, z_ro_eq, p_hasPerson, d1, zb_t, d2, d3]
            exact ok_q
          · by_cases d4 : G 21 p = -1
            · simp -implicitDefEqProofs (disch := first | assumption | omega | rfl | (simp only [z_up_eq, z_up_app, ↓reduceIte, Nat.reduceEqDiff]; omega)) only [z_lit0, z_lit1, z_lit2, z_litl, iI_add, iI_sub, iI_mul, iI_neg, iI_and, iI_or, iI_xor, iI_shl, iI_shr, iI_ushr, iI_div, iI_b, iI_c, iI_i2l, lI_l2i, lI_add, lI_sub, lI_mul, lI_neg, lI_div, lI_or, lI_and, lI_shl, lI_shr, nI_iI, lg_lt0, lg_gt0, lg_eq0, i_ne0', l_ne0', iI_lt, iI_le, iI_eq, lI_lt, lI_le, lI_eq, zb_0, zb_fit, zb_fit0, zb_fit1, i_one_zero, i_w_in, z_tb0, z_tb1, z_tb2, z_tb3, z_tb4, z_tb5, z_tb6, z_tb7, z_tb8, z_tbl, z_tu0, z_tu1, z_tu2, z_i_62, z_i_63, z_i_86, z_i_88, z_l_Y, z_ui_62, z_ui_63, z_ui_86, z_ui_88, z_ul_Y, z_sz_Y, z_sw_Y, iI_nat, z_ix_t, z_at, Int.add_zero, Int.sub_zero, Int.zero_add, Int.mul_zero, ne_eq, Bool.false_eq_true, Bool.true_eq_false, reduceCtorEq, eq_self, and_true, true_and, and_false, false_and, and_self, not_true_eq_false, not_false_eq_true, decide_true, decide_false, ↓reduceIte, Int.reduceEq, Int.reduceNe, Int.reduceLT, Int.reduceLE, Int.reduceAdd, Int.reduceSub, Int.reduceMul, Int.reduceNeg, Nat.reduceAdd, Nat.reduceEqDiff, Nat.reduceBEq, ↓z_x_eq, z_g_t, z_bI_s, z_bL_s, z_bR_s, z_bV_s, Int.cast_ofNat_Int, beq_self_eq_true, Bool.and_true, Bool.true_and, Bool.and_self, Bool.or_true, Bool.true_or, Bool.false_and, Bool.and_false, Bool.false_or, Bool.or_false, Bool.not_false, Bool.not_true, if_true, if_false, ite_true, ite_false, z_up_eq, z_up_app, z_ro_eq, p_hasPerson, d1, zb_t, d2, d3, d4]
              exact ok_q
            · have d5 : (G 21 x = -1) = True := eq_true (by
                by_cases f : G 21 x = -1
                · exact f
                · exact absurd ⟨d1, d2, d3, d4, f⟩ c1)
              simp -implicitDefEqProofs (disch := first | assumption | omega | rfl | (simp only [z_up_eq, z_up_app, ↓reduceIte, Nat.reduceEqDiff]; omega)) only [z_lit0, z_lit1, z_lit2, z_litl, iI_add, iI_sub, iI_mul, iI_neg, iI_and, iI_or, iI_xor, iI_shl, iI_shr, iI_ushr, iI_div, iI_b, iI_c, iI_i2l, lI_l2i, lI_add, lI_sub, lI_mul, lI_neg, lI_div, lI_or, lI_and, lI_shl, lI_shr, nI_iI, lg_lt0, lg_gt0, lg_eq0, i_ne0', l_ne0', iI_lt, iI_le, iI_eq, lI_lt, lI_le, lI_eq, zb_0, zb_fit, zb_fit0, zb_fit1, i_one_zero, i_w_in, z_tb0, z_tb1, z_tb2, z_tb3, z_tb4, z_tb5, z_tb6, z_tb7, z_tb8, z_tbl, z_tu0, z_tu1, z_tu2, z_i_62, z_i_63, z_i_86, z_i_88, z_l_Y, z_ui_62, z_ui_63, z_ui_86, z_ui_88, z_ul_Y, z_sz_Y, z_sw_Y, iI_nat, z_ix_t, z_at, Int.add_zero, Int.sub_zero, Int.zero_add, Int.mul_zero, ne_eq, Bool.false_eq_true, Bool.true_eq_false, reduceCtorEq, eq_self, and_true, true_and, and_false, false_and, and_self, not_true_eq_false, not_false_eq_true, decide_true, decide_false, ↓reduceIte, Int.reduceEq, Int.reduceNe, Int.reduceLT, Int.reduceLE, Int.reduceAdd, Int.reduceSub, Int.reduceMul, Int.reduceNeg, Nat.reduceAdd, Nat.reduceEqDiff, Nat.reduceBEq, ↓z_x_eq, z_g_t, z_bI_s, z_bL_s, z_bR_s, z_bV_s, Int.cast_ofNat_Int, beq_self_eq_true, Bool.and_true, Bool.true_and, Bool.and_self, Bool.or_true, Bool.true_or, Bool.false_and, Bool.and_false, Bool.false_or, Bool.or_false, Bool.not_false, Bool.not_true, if_true, if_false, ite_true, ite_false, z_up_eq, z_up_app, z_ro_eq, p_hasPerson, d1, zb_t, d2, d3, d4, d5]
              exact ok_q
        · simp -implicitDefEqProofs (disch := first | assumption | omega | rfl | (simp only [z_up_eq, z_up_app, ↓reduceIte, Nat.reduceEqDiff]; omega)) only [z_lit0, z_lit1, z_lit2, z_litl, iI_add, iI_sub, iI_mul, iI_neg, iI_and, iI_or, iI_xor, iI_shl, iI_shr, iI_ushr, iI_div, iI_b, iI_c, iI_i2l, lI_l2i, lI_add, lI_sub, lI_mul, lI_neg, lI_div, lI_or, lI_and, lI_shl, lI_shr, nI_iI, lg_lt0, lg_gt0, lg_eq0, i_ne0', l_ne0', iI_lt, iI_le, iI_eq, lI_lt, lI_le, lI_eq, zb_0, zb_fit, zb_fit0, zb_fit1, i_one_zero, i_w_in, z_tb0, z_tb1, z_tb2, z_tb3, z_tb4, z_tb5, z_tb6, z_tb7, z_tb8, z_tbl, z_tu0, z_tu1, z_tu2, z_i_62, z_i_63, z_i_86, z_i_88, z_l_Y, z_ui_62, z_ui_63, z_ui_86, z_ui_88, z_ul_Y, z_sz_Y, z_sw_Y, iI_nat, z_ix_t, z_at, Int.add_zero, Int.sub_zero, Int.zero_add, Int.mul_zero, ne_eq, Bool.false_eq_true, Bool.true_eq_false, reduceCtorEq, eq_self, and_true, true_and, and_false, false_and, and_self, not_true_eq_false, not_false_eq_true, decide_true, decide_false, ↓reduceIte, Int.reduceEq, Int.reduceNe, Int.reduceLT, Int.reduceLE, Int.reduceAdd, Int.reduceSub, Int.reduceMul, Int.reduceNeg, Nat.reduceAdd, Nat.reduceEqDiff, Nat.reduceBEq, ↓z_x_eq, z_g_t, z_bI_s, z_bL_s, z_bR_s, z_bV_s, Int.cast_ofNat_Int, beq_self_eq_true, Bool.and_true, Bool.true_and, Bool.and_self, Bool.or_true, Bool.true_or, Bool.false_and, Bool.and_false, Bool.false_or, Bool.or_false, Bool.not_false, Bool.not_true, if_true, if_false, ite_true, ite_false, z_up_eq, z_up_app, z_ro_eq, p_hasPerson, d1, zb_t, d2, zb_f]
          exact ok_q
      · simp -implicitDefEqProofs (disch := first | assumption | omega | rfl | (simp only [z_up_eq, z_up_app, ↓reduceIte, Nat.reduceEqDiff]; omega)) only [z_lit0, z_lit1, z_lit2, z_litl, iI_add, iI_sub, iI_mul, iI_neg, iI_and, iI_or, iI_xor, iI_shl, iI_shr, iI_ushr, iI_div, iI_b, iI_c, iI_i2l, lI_l2i, lI_add, lI_sub, lI_mul, lI_neg, lI_div, lI_or, lI_and, lI_shl, lI_shr, nI_iI, lg_lt0, lg_gt0, lg_eq0, i_ne0', l_ne0', iI_lt, iI_le, iI_eq, lI_lt, lI_le, lI_eq, zb_0, zb_fit, zb_fit0, zb_fit1, i_one_zero, i_w_in, z_tb0, z_tb1, z_tb2, z_tb3, z_tb4, z_tb5, z_tb6, z_tb7, z_tb8, z_tbl, z_tu0, z_tu1, z_tu2, z_i_62, z_i_63, z_i_86, z_i_88, z_l_Y, z_ui_62, z_ui_63, z_ui_86, z_ui_88, z_ul_Y, z_sz_Y, z_sw_Y, iI_nat, z_ix_t, z_at, Int.add_zero, Int.sub_zero, Int.zero_add, Int.mul_zero, ne_eq, Bool.false_eq_true, Bool.true_eq_false, reduceCtorEq, eq_self, and_true, true_and, and_false, false_and, and_self, not_true_eq_false, not_false_eq_true, decide_true, decide_false, ↓reduceIte, Int.reduceEq, Int.reduceNe, Int.reduceLT, Int.reduceLE, Int.reduceAdd, Int.reduceSub, Int.reduceMul, Int.reduceNeg, Nat.reduceAdd, Nat.reduceEqDiff, Nat.reduceBEq, ↓z_x_eq, z_g_t, z_bI_s, z_bL_s, z_bR_s, z_bV_s, Int.cast_ofNat_Int, beq_self_eq_true, Bool.and_true, Bool.true_and, Bool.and_self, Bool.or_true, Bool.true_or, Bool.false_and, Bool.and_false, Bool.false_or, Bool.or_false, Bool.not_false, Bool.not_true, if_true, if_false, ite_true, ite_false, z_up_eq, z_up_app, z_ro_eq, p_hasPerson, d1, zb_f]
        exact ok_q
    · intro A Gm s hC e hq e83
      have q := (dw_h hC).2.1
      have m0 := hC.1.1
      have m1 := hC.1.2.1
      rw [q] at c1
      have pi := p_isPerson b_ T Gm s (x := p) ⟨hp, by rw [e]; exact m1⟩
      rw [e] at pi
      have px := p_isPerson b_ T Gm s (x := x) ⟨hx, by rw [e]; exact m1⟩
      rw [e] at px
      rw [e_M_change]
      by_cases d1 : 0 ≤ p ∧ p ≤ A 1 - 1
      · have op := (dw_o hC p d1.1 (by omega)).1
        have mp := mo_p hC.1 p d1.1 (by omega)
        rw [op] at c1
        by_cases d2 : 0 ≤ x ∧ x ≤ A 1 - 1
        · have ox := (dw_o hC x d2.1 (by omega)).1
          have mx := mo_p hC.1 x d2.1 (by omega)
          rw [ox] at c1
          by_cases d3 : p = x
          · rw [d3] at pi d1 ⊢
            simp -implicitDefEqProofs (disch := first | assumption | omega | rfl | (simp only [z_up_eq, z_up_app, ↓reduceIte, Nat.reduceEqDiff]; omega)) only [z_lit0, z_lit1, z_lit2, z_litl, iI_add, iI_sub, iI_mul, iI_neg, iI_and, iI_or, iI_xor, iI_shl, iI_shr, iI_ushr, iI_div, iI_b, iI_c, iI_i2l, lI_l2i, lI_add, lI_sub, lI_mul, lI_neg, lI_div, lI_or, lI_and, lI_shl, lI_shr, nI_iI, lg_lt0, lg_gt0, lg_eq0, i_ne0', l_ne0', iI_lt, iI_le, iI_eq, lI_lt, lI_le, lI_eq, zb_0, zb_fit, zb_fit0, zb_fit1, i_one_zero, i_w_in, z_tb0, z_tb1, z_tb2, z_tb3, z_tb4, z_tb5, z_tb6, z_tb7, z_tb8, z_tbl, z_tu0, z_tu1, z_tu2, z_i_62, z_i_63, z_i_86, z_i_88, z_l_Y, z_ui_62, z_ui_63, z_ui_86, z_ui_88, z_ul_Y, z_sz_Y, z_sw_Y, iI_nat, z_ix_t, z_at, Int.add_zero, Int.sub_zero, Int.zero_add, Int.mul_zero, ne_eq, Bool.false_eq_true, Bool.true_eq_false, reduceCtorEq, eq_self, and_true, true_and, and_false, false_and, and_self, not_true_eq_false, not_false_eq_true, decide_true, decide_false, ↓reduceIte, Int.reduceEq, Int.reduceNe, Int.reduceLT, Int.reduceLE, Int.reduceAdd, Int.reduceSub, Int.reduceMul, Int.reduceNeg, Nat.reduceAdd, Nat.reduceEqDiff, Nat.reduceBEq, ↓z_x_eq, z_g_t, z_bI_s, z_bL_s, z_bR_s, z_bV_s, Int.cast_ofNat_Int, beq_self_eq_true, Bool.and_true, Bool.true_and, Bool.and_self, Bool.or_true, Bool.true_or, Bool.false_and, Bool.and_false, Bool.false_or, Bool.or_false, Bool.not_false, Bool.not_true, if_true, if_false, ite_true, ite_false, z_up_eq, z_up_app, z_ro_eq, pi, px, d1, zb_t, d2]
            exact ok_q
          · by_cases d4 : A (32 + 5 * p + 3) = -1
            · simp -implicitDefEqProofs (disch := first | assumption | omega | rfl | (simp only [z_up_eq, z_up_app, ↓reduceIte, Nat.reduceEqDiff]; omega)) only [z_lit0, z_lit1, z_lit2, z_litl, iI_add, iI_sub, iI_mul, iI_neg, iI_and, iI_or, iI_xor, iI_shl, iI_shr, iI_ushr, iI_div, iI_b, iI_c, iI_i2l, lI_l2i, lI_add, lI_sub, lI_mul, lI_neg, lI_div, lI_or, lI_and, lI_shl, lI_shr, nI_iI, lg_lt0, lg_gt0, lg_eq0, i_ne0', l_ne0', iI_lt, iI_le, iI_eq, lI_lt, lI_le, lI_eq, zb_0, zb_fit, zb_fit0, zb_fit1, i_one_zero, i_w_in, z_tb0, z_tb1, z_tb2, z_tb3, z_tb4, z_tb5, z_tb6, z_tb7, z_tb8, z_tbl, z_tu0, z_tu1, z_tu2, z_i_62, z_i_63, z_i_86, z_i_88, z_l_Y, z_ui_62, z_ui_63, z_ui_86, z_ui_88, z_ul_Y, z_sz_Y, z_sw_Y, iI_nat, z_ix_t, z_at, Int.add_zero, Int.sub_zero, Int.zero_add, Int.mul_zero, ne_eq, Bool.false_eq_true, Bool.true_eq_false, reduceCtorEq, eq_self, and_true, true_and, and_false, false_and, and_self, not_true_eq_false, not_false_eq_true, decide_true, decide_false, ↓reduceIte, Int.reduceEq, Int.reduceNe, Int.reduceLT, Int.reduceLE, Int.reduceAdd, Int.reduceSub, Int.reduceMul, Int.reduceNeg, Nat.reduceAdd, Nat.reduceEqDiff, Nat.reduceBEq, ↓z_x_eq, z_g_t, z_bI_s, z_bL_s, z_bR_s, z_bV_s, Int.cast_ofNat_Int, beq_self_eq_true, Bool.and_true, Bool.true_and, Bool.and_self, Bool.or_true, Bool.true_or, Bool.false_and, Bool.and_false, Bool.false_or, Bool.or_false, Bool.not_false, Bool.not_true, if_true, if_false, ite_true, ite_false, z_up_eq, z_up_app, z_ro_eq, pi, px, d1, zb_t, d2, d3, p_get, e, d4]
              exact ok_q
            · have d5 : (A (32 + 5 * x + 3) = -1) = True := eq_true (by
                by_cases f : A (32 + 5 * x + 3) = -1
                · exact f
                · exact absurd ⟨d1, d2, d3, d4, f⟩ c1)
              simp -implicitDefEqProofs (disch := first | assumption | omega | rfl | (simp only [z_up_eq, z_up_app, ↓reduceIte, Nat.reduceEqDiff]; omega)) only [z_lit0, z_lit1, z_lit2, z_litl, iI_add, iI_sub, iI_mul, iI_neg, iI_and, iI_or, iI_xor, iI_shl, iI_shr, iI_ushr, iI_div, iI_b, iI_c, iI_i2l, lI_l2i, lI_add, lI_sub, lI_mul, lI_neg, lI_div, lI_or, lI_and, lI_shl, lI_shr, nI_iI, lg_lt0, lg_gt0, lg_eq0, i_ne0', l_ne0', iI_lt, iI_le, iI_eq, lI_lt, lI_le, lI_eq, zb_0, zb_fit, zb_fit0, zb_fit1, i_one_zero, i_w_in, z_tb0, z_tb1, z_tb2, z_tb3, z_tb4, z_tb5, z_tb6, z_tb7, z_tb8, z_tbl, z_tu0, z_tu1, z_tu2, z_i_62, z_i_63, z_i_86, z_i_88, z_l_Y, z_ui_62, z_ui_63, z_ui_86, z_ui_88, z_ul_Y, z_sz_Y, z_sw_Y, iI_nat, z_ix_t, z_at, Int.add_zero, Int.sub_zero, Int.zero_add, Int.mul_zero, ne_eq, Bool.false_eq_true, Bool.true_eq_false, reduceCtorEq, eq_self, and_true, true_and, and_false, false_and, and_self, not_true_eq_false, not_false_eq_true, decide_true, decide_false, ↓reduceIte, Int.reduceEq, Int.reduceNe, Int.reduceLT, Int.reduceLE, Int.reduceAdd, Int.reduceSub, Int.reduceMul, Int.reduceNeg, Nat.reduceAdd, Nat.reduceEqDiff, Nat.reduceBEq, ↓z_x_eq, z_g_t, z_bI_s, z_bL_s, z_bR_s, z_bV_s, Int.cast_ofNat_Int, beq_self_eq_true, Bool.and_true, Bool.true_and, Bool.and_self, Bool.or_true, Bool.true_or, Bool.false_and, Bool.and_false, Bool.false_or, Bool.or_false, Bool.not_false, Bool.not_true, if_true, if_false, ite_true, ite_false, z_up_eq, z_up_app, z_ro_eq, pi, px, d1, zb_t, d2, d3, p_get, e, d4, d5]
              exact ok_q
        · simp -implicitDefEqProofs (disch := first | assumption | omega | rfl | (simp only [z_up_eq, z_up_app, ↓reduceIte, Nat.reduceEqDiff]; omega)) only [z_lit0, z_lit1, z_lit2, z_litl, iI_add, iI_sub, iI_mul, iI_neg, iI_and, iI_or, iI_xor, iI_shl, iI_shr, iI_ushr, iI_div, iI_b, iI_c, iI_i2l, lI_l2i, lI_add, lI_sub, lI_mul, lI_neg, lI_div, lI_or, lI_and, lI_shl, lI_shr, nI_iI, lg_lt0, lg_gt0, lg_eq0, i_ne0', l_ne0', iI_lt, iI_le, iI_eq, lI_lt, lI_le, lI_eq, zb_0, zb_fit, zb_fit0, zb_fit1, i_one_zero, i_w_in, z_tb0, z_tb1, z_tb2, z_tb3, z_tb4, z_tb5, z_tb6, z_tb7, z_tb8, z_tbl, z_tu0, z_tu1, z_tu2, z_i_62, z_i_63, z_i_86, z_i_88, z_l_Y, z_ui_62, z_ui_63, z_ui_86, z_ui_88, z_ul_Y, z_sz_Y, z_sw_Y, iI_nat, z_ix_t, z_at, Int.add_zero, Int.sub_zero, Int.zero_add, Int.mul_zero, ne_eq, Bool.false_eq_true, Bool.true_eq_false, reduceCtorEq, eq_self, and_true, true_and, and_false, false_and, and_self, not_true_eq_false, not_false_eq_true, decide_true, decide_false, ↓reduceIte, Int.reduceEq, Int.reduceNe, Int.reduceLT, Int.reduceLE, Int.reduceAdd, Int.reduceSub, Int.reduceMul, Int.reduceNeg, Nat.reduceAdd, Nat.reduceEqDiff, Nat.reduceBEq, ↓z_x_eq, z_g_t, z_bI_s, z_bL_s, z_bR_s, z_bV_s, Int.cast_ofNat_Int, beq_self_eq_true, Bool.and_true, Bool.true_and, Bool.and_self, Bool.or_true, Bool.true_or, Bool.false_and, Bool.and_false, Bool.false_or, Bool.or_false, Bool.not_false, Bool.not_true, if_true, if_false, ite_true, ite_false, z_up_eq, z_up_app, z_ro_eq, pi, px, d1, zb_t, d2, zb_f]
          exact ok_q
      · simp -implicitDefEqProofs (disch := first | assumption | omega | rfl | (simp only [z_up_eq, z_up_app, ↓reduceIte, Nat.reduceEqDiff]; omega)) only [z_lit0, z_lit1, z_lit2, z_litl, iI_add, iI_sub, iI_mul, iI_neg, iI_and, iI_or, iI_xor, iI_shl, iI_shr, iI_ushr, iI_div, iI_b, iI_c, iI_i2l, lI_l2i, lI_add, lI_sub, lI_mul, lI_neg, lI_div, lI_or, lI_and, lI_shl, lI_shr, nI_iI, lg_lt0, lg_gt0, lg_eq0, i_ne0', l_ne0', iI_lt, iI_le, iI_eq, lI_lt, lI_le, lI_eq, zb_0, zb_fit, zb_fit0, zb_fit1, i_one_zero, i_w_in, z_tb0, z_tb1, z_tb2, z_tb3, z_tb4, z_tb5, z_tb6, z_tb7, z_tb8, z_tbl, z_tu0, z_tu1, z_tu2, z_i_62, z_i_63, z_i_86, z_i_88, z_l_Y, z_ui_62, z_ui_63, z_ui_86, z_ui_88, z_ul_Y, z_sz_Y, z_sw_Y, iI_nat, z_ix_t, z_at, Int.add_zero, Int.sub_zero, Int.zero_add, Int.mul_zero, ne_eq, Bool.false_eq_true, Bool.true_eq_false, reduceCtorEq, eq_self, and_true, true_and, and_false, false_and, and_self, not_true_eq_false, not_false_eq_true, decide_true, decide_false, ↓reduceIte, Int.reduceEq, Int.reduceNe, Int.reduceLT, Int.reduceLE, Int.reduceAdd, Int.reduceSub, Int.reduceMul, Int.reduceNeg, Nat.reduceAdd, Nat.reduceEqDiff, Nat.reduceBEq, ↓z_x_eq, z_g_t, z_bI_s, z_bL_s, z_bR_s, z_bV_s, Int.cast_ofNat_Int, beq_self_eq_true, Bool.and_true, Bool.true_and, Bool.and_self, Bool.or_true, Bool.true_or, Bool.false_and, Bool.and_false, Bool.false_or, Bool.or_false, Bool.not_false, Bool.not_true, if_true, if_false, ite_true, ite_false, z_up_eq, z_up_app, z_ro_eq, pi, d1, zb_f]
        exact ok_q

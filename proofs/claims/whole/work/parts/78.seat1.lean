/-! THE PURE PART, 58: seated, the class's side -/
theorem cq_eq {T : ZT} {G G' : ZG} (h : c_q T G) (e : ∀ r, (11 ≤ r ∧ r ≤ 32) ∨ (81 ≤ r ∧ r ≤ 83) ∨ 98 ≤ r → G' r = G r) : c_q T G' :=
  ⟨c_now_eq (fun r a b => e r (by omega)) (e 81 (by omega)) h.1, t_ok_eq (fun r a => e r (by omega)) (e 83 (by omega)) (by rw [e 81 (by omega)]) (by rw [e 82 (by omega)]) h.2⟩
def s_oth (A X : Int → Int) (x y b p : Int) : Int := if i_has x p = true ∨ A (32 + 5 * p + 3) = -1 ∨ i_has y (A (32 + 5 * p + 3)) = true then 0 else t_breath A X p b (A (32 + 5 * p + 3)) (A (32 + 5 * p + 4)) (A 8) (A (32 + 5 * p + 2))
theorem p_oth_l (d : Nat) (T : ZT) (G : ZG) {x y b : Int} (hQ : c_q T G) (hb : 0 ≤ b ∧ b ≤ 20000) : ∀ (m : Nat) (p acc : Int) (s : ZG × ZG), 0 ≤ p → p + m = G 81 1 → ∃ s', z_w d_Ga_airOfOthers (z_call (d + 4)) 6 [some (vr 70), some (vi (iI b)), some (vi (iI x)), some (vi (iI y)), some (vi (iI acc)), some (vi (iI p)), none] [] (z_Y T G s) = some (vi (iI (acc + z_sum m p (s_oth (G 81) (G 83) x y b))), z_Y T G s')
  | 0, p, acc, s, h0, h => by
    have q1 := (dw_h hQ.1).2.1
    have m1 := hQ.1.1.2.1
    have c : (p < G 81 1) = False := eq_false (by omega)
    refine ⟨s, ?_⟩
    rw [e_Ga_airOfOthers_6]
    simp -implicitDefEqProofs (disch := first | assumption | omega | rfl | (simp only [z_up_eq, z_up_app, ↓reduceIte, Nat.reduceEqDiff]; omega)) only [z_lit0, z_lit1, z_lit2, z_litl, iI_add, iI_sub, iI_mul, iI_neg, iI_and, iI_or, iI_xor, iI_shl, iI_shr, iI_ushr, iI_div, iI_b, iI_c, iI_i2l, lI_l2i, lI_add, lI_sub, lI_mul, lI_neg, lI_div, lI_or, lI_and, lI_shl, lI_shr, nI_iI, lg_lt0, lg_gt0, lg_eq0, i_ne0', l_ne0', iI_lt, iI_le, iI_eq, lI_lt, lI_le, lI_eq, zb_0, zb_fit, zb_fit0, zb_fit1, i_one_zero, i_w_in, z_tb0, z_tb1, z_tb2, z_tb3, z_tb4, z_tb5, z_tb6, z_tb7, z_tb8, z_tbl, z_tu0, z_tu1, z_tu2, z_i_62, z_i_63, z_i_86, z_i_88, z_l_Y, z_ui_62, z_ui_63, z_ui_86, z_ui_88, z_ul_Y, z_sz_Y, z_sw_Y, iI_nat, z_ix_t, z_at, Int.add_zero, Int.sub_zero, Int.zero_add, Int.mul_zero, ne_eq, Bool.false_eq_true, Bool.true_eq_false, reduceCtorEq, eq_self, and_true, true_and, and_false, false_and, and_self, not_true_eq_false, not_false_eq_true, decide_true, decide_false, ↓reduceIte, Int.reduceEq, Int.reduceNe, Int.reduceLT, Int.reduceLE, Int.reduceAdd, Int.reduceSub, Int.reduceMul, Int.reduceNeg, Nat.reduceAdd, Nat.reduceEqDiff, Nat.reduceBEq, ↓z_x_eq, z_g_t, z_bI_s, z_bL_s, z_bR_s, z_bV_s, Int.cast_ofNat_Int, beq_self_eq_true, Bool.and_true, Bool.true_and, Bool.and_self, Bool.or_true, Bool.true_or, Bool.false_and, Bool.and_false, Bool.false_or, Bool.or_false, Bool.not_false, Bool.not_true, if_true, if_false, ite_true, ite_false, z_up_eq, z_up_app, z_ro_eq, q1, c]
    show _ = some (vi (iI (acc + 0)), _)
    rw [Int.add_zero]
  | m + 1, p, acc, s, h0, h => by
    have q1 := (dw_h hQ.1).2.1
    have m1 := hQ.1.1.2.1
    have c : (p < G 81 1) = True := eq_true (by omega)
    have o := dw_o hQ.1 p h0 (by omega)
    have o1 := o.1
    have o2 := o.2
    have dp := (dw_p hQ.1 p h0 (by omega)).2.2
    have u := (dw_m hQ.1).1
    have m0 := hQ.1.1.1
    have mp := mo_p hQ.1.1 p h0 (by omega)
    have ih := fun acc s => p_oth_l d T G (x := x) (y := y) hQ hb m (p + 1) acc s (by omega) (by omega)
    show ∃ s', _ = some (vi (iI (acc + (s_oth (G 81) (G 83) x y b p + z_sum m (p + 1) (s_oth (G 81) (G 83) x y b)))), z_Y T G s')
    rw [e_Ga_airOfOthers_6]
    cases c1 : i_has x p
    · by_cases c2 : G 81 (32 + 5 * p + 3) = -1
      · obtain ⟨s', e⟩ := ih acc s
        refine ⟨s', ?_⟩
        rw [show s_oth (G 81) (G 83) x y b p = 0 from if_pos (Or.inr (Or.inl c2)), Int.zero_add, ← e]
        simp -implicitDefEqProofs (disch := first | assumption | omega | rfl | (simp only [z_up_eq, z_up_app, ↓reduceIte, Nat.reduceEqDiff]; omega)) only [z_lit0, z_lit1, z_lit2, z_litl, iI_add, iI_sub, iI_mul, iI_neg, iI_and, iI_or, iI_xor, iI_shl, iI_shr, iI_ushr, iI_div, iI_b, iI_c, iI_i2l, lI_l2i, lI_add, lI_sub, lI_mul, lI_neg, lI_div, lI_or, lI_and, lI_shl, lI_shr, nI_iI, lg_lt0, lg_gt0, lg_eq0, i_ne0', l_ne0', iI_lt, iI_le, iI_eq, lI_lt, lI_le, lI_eq, zb_0, zb_fit, zb_fit0, zb_fit1, i_one_zero, i_w_in, z_tb0, z_tb1, z_tb2, z_tb3, z_tb4, z_tb5, z_tb6, z_tb7, z_tb8, z_tbl, z_tu0, z_tu1, z_tu2, z_i_62, z_i_63, z_i_86, z_i_88, z_l_Y, z_ui_62, z_ui_63, z_ui_86, z_ui_88, z_ul_Y, z_sz_Y, z_sw_Y, iI_nat, z_ix_t, z_at, Int.add_zero, Int.sub_zero, Int.zero_add, Int.mul_zero, ne_eq, Bool.false_eq_true, Bool.true_eq_false, reduceCtorEq, eq_self, and_true, true_and, and_false, false_and, and_self, not_true_eq_false, not_false_eq_true, decide_true, decide_false, ↓reduceIte, Int.reduceEq, Int.reduceNe, Int.reduceLT, Int.reduceLE, Int.reduceAdd, Int.reduceSub, Int.reduceMul, Int.reduceNeg, Nat.reduceAdd, Nat.reduceEqDiff, Nat.reduceBEq, ↓z_x_eq, z_g_t, z_bI_s, z_bL_s, z_bR_s, z_bV_s, Int.cast_ofNat_Int, beq_self_eq_true, Bool.and_true, Bool.true_and, Bool.and_self, Bool.or_true, Bool.true_or, Bool.false_and, Bool.and_false, Bool.false_or, Bool.or_false, Bool.not_false, Bool.not_true, if_true, if_false, ite_true, ite_false, z_up_eq, z_up_app, z_ro_eq, q1, c, o1, p_has, c1, zb_f, c2]
      · cases c3 : i_has y (G 81 (32 + 5 * p + 3))
        · obtain ⟨v, τ, eb, rfl, s1, rfl⟩ := p_cbreath d T G s (p := p) (b := b) (st := G 81 (32 + 5 * p + 3)) (hw := G 81 (32 + 5 * p + 4)) (us := G 81 8) (sa := G 81 (32 + 5 * p + 2)) hQ ⟨h0, by omega⟩ hb (by omega) (by omega) (by omega)
          obtain ⟨s', e⟩ := ih (acc + t_breath (G 81) (G 83) p b (G 81 (32 + 5 * p + 3)) (G 81 (32 + 5 * p + 4)) (G 81 8) (G 81 (32 + 5 * p + 2))) s1
          refine ⟨s', ?_⟩
          rw [show s_oth (G 81) (G 83) x y b p = t_breath (G 81) (G 83) p b (G 81 (32 + 5 * p + 3)) (G 81 (32 + 5 * p + 4)) (G 81 8) (G 81 (32 + 5 * p + 2)) from if_neg (by rw [c1, c3]; simp [c2]), ← Int.add_assoc, ← e]
          simp -implicitDefEqProofs (disch := first | assumption | omega | rfl | (simp only [z_up_eq, z_up_app, ↓reduceIte, Nat.reduceEqDiff]; omega)) only [z_lit0, z_lit1, z_lit2, z_litl, iI_add, iI_sub, iI_mul, iI_neg, iI_and, iI_or, iI_xor, iI_shl, iI_shr, iI_ushr, iI_div, iI_b, iI_c, iI_i2l, lI_l2i, lI_add, lI_sub, lI_mul, lI_neg, lI_div, lI_or, lI_and, lI_shl, lI_shr, nI_iI, lg_lt0, lg_gt0, lg_eq0, i_ne0', l_ne0', iI_lt, iI_le, iI_eq, lI_lt, lI_le, lI_eq, zb_0, zb_fit, zb_fit0, zb_fit1, i_one_zero, i_w_in, z_tb0, z_tb1, z_tb2, z_tb3, z_tb4, z_tb5, z_tb6, z_tb7, z_tb8, z_tbl, z_tu0, z_tu1, z_tu2, z_i_62, z_i_63, z_i_86, z_i_88, z_l_Y, z_ui_62, z_ui_63, z_ui_86, z_ui_88, z_ul_Y, z_sz_Y, z_sw_Y, iI_nat, z_ix_t, z_at, Int.add_zero, Int.sub_zero, Int.zero_add, Int.mul_zero, ne_eq, Bool.false_eq_true, Bool.true_eq_false, reduceCtorEq, eq_self, and_true, true_and, and_false, false_and, and_self, not_true_eq_false, not_false_eq_true, decide_true, decide_false, ↓reduceIte, Int.reduceEq, Int.reduceNe, Int.reduceLT, Int.reduceLE, Int.reduceAdd, Int.reduceSub, Int.reduceMul, Int.reduceNeg, Nat.reduceAdd, Nat.reduceEqDiff, Nat.reduceBEq, ↓z_x_eq, z_g_t, z_bI_s, z_bL_s, z_bR_s, z_bV_s, Int.cast_ofNat_Int, beq_self_eq_true, Bool.and_true, Bool.true_and, Bool.and_self, Bool.or_true, Bool.true_or, Bool.false_and, Bool.and_false, Bool.false_or, Bool.or_false, Bool.not_false, Bool.not_true, if_true, if_false, ite_true, ite_false, z_up_eq, z_up_app, z_ro_eq, q1, c, o1, o2, dp, u, p_has, c1, zb_f, c2, c3, eb]
        · obtain ⟨s', e⟩ := ih acc s
          refine ⟨s', ?_⟩
          rw [show s_oth (G 81) (G 83) x y b p = 0 from if_pos (Or.inr (Or.inr c3)), Int.zero_add, ← e]
          simp -implicitDefEqProofs (disch := first | assumption | omega | rfl | (simp only [z_up_eq, z_up_app, ↓reduceIte, Nat.reduceEqDiff]; omega)) only [z_lit0, z_lit1, z_lit2, z_litl, iI_add, iI_sub, iI_mul, iI_neg, iI_and, iI_or, iI_xor, iI_shl, iI_shr, iI_ushr, iI_div, iI_b, iI_c, iI_i2l, lI_l2i, lI_add, lI_sub, lI_mul, lI_neg, lI_div, lI_or, lI_and, lI_shl, lI_shr, nI_iI, lg_lt0, lg_gt0, lg_eq0, i_ne0', l_ne0', iI_lt, iI_le, iI_eq, lI_lt, lI_le, lI_eq, zb_0, zb_fit, zb_fit0, zb_fit1, i_one_zero, i_w_in, z_tb0, z_tb1, z_tb2, z_tb3, z_tb4, z_tb5, z_tb6, z_tb7, z_tb8, z_tbl, z_tu0, z_tu1, z_tu2, z_i_62, z_i_63, z_i_86, z_i_88, z_l_Y, z_ui_62, z_ui_63, z_ui_86, z_ui_88, z_ul_Y, z_sz_Y, z_sw_Y, iI_nat, z_ix_t, z_at, Int.add_zero, Int.sub_zero, Int.zero_add, Int.mul_zero, ne_eq, Bool.false_eq_true, Bool.true_eq_false, reduceCtorEq, eq_self, and_true, true_and, and_false, false_and, and_self, not_true_eq_false, not_false_eq_true, decide_true, decide_false, ↓reduceIte, Int.reduceEq, Int.reduceNe, Int.reduceLT, Int.reduceLE, Int.reduceAdd, Int.reduceSub, Int.reduceMul, Int.reduceNeg, Nat.reduceAdd, Nat.reduceEqDiff, Nat.reduceBEq, ↓z_x_eq, z_g_t, z_bI_s, z_bL_s, z_bR_s, z_bV_s, Int.cast_ofNat_Int, beq_self_eq_true, Bool.and_true, Bool.true_and, Bool.and_self, Bool.or_true, Bool.true_or, Bool.false_and, Bool.and_false, Bool.false_or, Bool.or_false, Bool.not_false, Bool.not_true, if_true, if_false, ite_true, ite_false, z_up_eq, z_up_app, z_ro_eq, q1, c, o1, p_has, c1, zb_f, zb_t, c2, c3]
    · obtain ⟨s', e⟩ := ih acc s
      refine ⟨s', ?_⟩
      rw [show s_oth (G 81) (G 83) x y b p = 0 from if_pos (Or.inl c1), Int.zero_add, ← e]
      simp -implicitDefEqProofs (disch := first | assumption | omega | rfl | (simp only [z_up_eq, z_up_app, ↓reduceIte, Nat.reduceEqDiff]; omega)) only [z_lit0, z_lit1, z_lit2, z_litl, iI_add, iI_sub, iI_mul, iI_neg, iI_and, iI_or, iI_xor, iI_shl, iI_shr, iI_ushr, iI_div, iI_b, iI_c, iI_i2l, lI_l2i, lI_add, lI_sub, lI_mul, lI_neg, lI_div, lI_or, lI_and, lI_shl, lI_shr, nI_iI, lg_lt0, lg_gt0, lg_eq0, i_ne0', l_ne0', iI_lt, iI_le, iI_eq, lI_lt, lI_le, lI_eq, zb_0, zb_fit, zb_fit0, zb_fit1, i_one_zero, i_w_in, z_tb0, z_tb1, z_tb2, z_tb3, z_tb4, z_tb5, z_tb6, z_tb7, z_tb8, z_tbl, z_tu0, z_tu1, z_tu2, z_i_62, z_i_63, z_i_86, z_i_88, z_l_Y, z_ui_62, z_ui_63, z_ui_86, z_ui_88, z_ul_Y, z_sz_Y, z_sw_Y, iI_nat, z_ix_t, z_at, Int.add_zero, Int.sub_zero, Int.zero_add, Int.mul_zero, ne_eq, Bool.false_eq_true, Bool.true_eq_false, reduceCtorEq, eq_self, and_true, true_and, and_false, false_and, and_self, not_true_eq_false, not_false_eq_true, decide_true, decide_false, ↓reduceIte, Int.reduceEq, Int.reduceNe, Int.reduceLT, Int.reduceLE, Int.reduceAdd, Int.reduceSub, Int.reduceMul, Int.reduceNeg, Nat.reduceAdd, Nat.reduceEqDiff, Nat.reduceBEq, ↓z_x_eq, z_g_t, z_bI_s, z_bL_s, z_bR_s, z_bV_s, Int.cast_ofNat_Int, beq_self_eq_true, Bool.and_true, Bool.true_and, Bool.and_self, Bool.or_true, Bool.true_or, Bool.false_and, Bool.and_false, Bool.false_or, Bool.or_false, Bool.not_false, Bool.not_true, if_true, if_false, ite_true, ite_false, z_up_eq, z_up_app, z_ro_eq, q1, c, o1, p_has, c1, zb_t]
theorem p_oth (d : Nat) (T : ZT) (G : ZG) (s : ZG × ZG) {x y b : Int} (hQ : c_q T G) (hb : 0 ≤ b ∧ b ≤ 20000) : ∃ s', z_call (d + 5) 237 [vr 70, vi (iI b), vi (iI x), vi (iI y)] (z_Y T G s) = some (vi (iI (z_sum (G 81 1).toNat 0 (s_oth (G 81) (G 83) x y b))), z_Y T G s') := by
  have m1 := hQ.1.1.2.1
  obtain ⟨s', e⟩ := p_oth_l d T G (x := x) (y := y) hQ hb (G 81 1).toNat 0 0 s (by omega) (by omega)
  refine ⟨s', ?_⟩
  rw [Int.zero_add] at e
  rw [e_Ga_airOfOthers]
  simp -implicitDefEqProofs (disch := first | assumption | omega | rfl | (simp only [z_up_eq, z_up_app, ↓reduceIte, Nat.reduceEqDiff]; omega)) only [z_lit0, z_lit1, z_lit2, z_litl, iI_add, iI_sub, iI_mul, iI_neg, iI_and, iI_or, iI_xor, iI_shl, iI_shr, iI_ushr, iI_div, iI_b, iI_c, iI_i2l, lI_l2i, lI_add, lI_sub, lI_mul, lI_neg, lI_div, lI_or, lI_and, lI_shl, lI_shr, nI_iI, lg_lt0, lg_gt0, lg_eq0, i_ne0', l_ne0', iI_lt, iI_le, iI_eq, lI_lt, lI_le, lI_eq, zb_0, zb_fit, zb_fit0, zb_fit1, i_one_zero, i_w_in, z_tb0, z_tb1, z_tb2, z_tb3, z_tb4, z_tb5, z_tb6, z_tb7, z_tb8, z_tbl, z_tu0, z_tu1, z_tu2, z_i_62, z_i_63, z_i_86, z_i_88, z_l_Y, z_ui_62, z_ui_63, z_ui_86, z_ui_88, z_ul_Y, z_sz_Y, z_sw_Y, iI_nat, z_ix_t, z_at, Int.add_zero, Int.sub_zero, Int.zero_add, Int.mul_zero, ne_eq, Bool.false_eq_true, Bool.true_eq_false, reduceCtorEq, eq_self, and_true, true_and, and_false, false_and, and_self, not_true_eq_false, not_false_eq_true, decide_true, decide_false, ↓reduceIte, Int.reduceEq, Int.reduceNe, Int.reduceLT, Int.reduceLE, Int.reduceAdd, Int.reduceSub, Int.reduceMul, Int.reduceNeg, Nat.reduceAdd, Nat.reduceEqDiff, Nat.reduceBEq, ↓z_x_eq, z_g_t, z_bI_s, z_bL_s, z_bR_s, z_bV_s, Int.cast_ofNat_Int, beq_self_eq_true, Bool.and_true, Bool.true_and, Bool.and_self, Bool.or_true, Bool.true_or, Bool.false_and, Bool.and_false, Bool.false_or, Bool.or_false, Bool.not_false, Bool.not_true, if_true, if_false, ite_true, ite_false, z_up_eq, z_up_app, z_ro_eq, e]
/-- the breath of the i-th on the j-th place -/
def s_tb (A X M P : Int → Int) (b i j : Int) : Int := t_breath A X (M i) b (P j) (A (32 + 5 * M i + 4)) (A 8) (A (32 + 5 * M i + 2))
def s_bt (A X M P : Int → Int) (b : Int) (n : Nat) (B : Int → Int) (i j : Int) : Prop := (∀ i' j' : Int, 0 ≤ i' → i' < i → 0 ≤ j' → j' < n → B (i' * 5 + j') = s_tb A X M P b i' j') ∧ ∀ j' : Int, 0 ≤ j' → j' < j → B (i * 5 + j') = s_tb A X M P b i j'
theorem p_ch_43 (d : Nat) (T : ZT) (G : ZG) {n : Nat} {no b ot i : Int} (hQ : c_q T G) (hb : 0 ≤ b ∧ b ≤ 20000) (hn : n ≤ 5) (hi : 0 ≤ i ∧ i < n) (hM : 0 ≤ G 71 i ∧ G 71 i < G 81 1) (hP : ∀ j : Int, 0 ≤ j → j < n → 0 ≤ G 72 j ∧ G 72 j < G 81 0) : ∀ (m : Nat) (j : Int) (B : Int → Int) (s : ZG × ZG), 0 ≤ j → j + m = n → s_bt (G 81) (G 83) (G 71) (G 72) b n B i j → ∃ B' s', z_w d_Ga_countHeld (z_call (d + 4)) 43 [some (vr 70), some (vi (iI no)), some (vi (iI n)), none, none, some (vi (iI b)), some (vi (iI ot)), some (vi (iI i)), some (vi (iI (G 71 i))), some (vi (iI j)), none] [] (z_Y T (z_up G 74 B) s) = z_w d_Ga_countHeld (z_call (d + 4)) 25 [some (vr 70), some (vi (iI no)), some (vi (iI n)), none, none, some (vi (iI b)), some (vi (iI ot)), some (vi (iI (i + 1))), none, none, none] [] (z_Y T (z_up G 74 B') s') ∧ s_bt (G 81) (G 83) (G 71) (G 72) b n B' (i + 1) 0
  | 0, j, B, s, h0, h, hB => by
    have c : (j < n) = False := eq_false (by omega)
    refine ⟨B, s, ?_, fun i' j' a e f g => ?_, fun j' a e => by omega⟩
    · rw [e_Ga_countHeld_43]
      simp -implicitDefEqProofs (disch := first | assumption | omega | rfl | (simp only [z_up_eq, z_up_app, ↓reduceIte, Nat.reduceEqDiff]; omega)) only [z_lit0, z_lit1, z_lit2, z_litl, iI_add, iI_sub, iI_mul, iI_neg, iI_and, iI_or, iI_xor, iI_shl, iI_shr, iI_ushr, iI_div, iI_b, iI_c, iI_i2l, lI_l2i, lI_add, lI_sub, lI_mul, lI_neg, lI_div, lI_or, lI_and, lI_shl, lI_shr, nI_iI, lg_lt0, lg_gt0, lg_eq0, i_ne0', l_ne0', iI_lt, iI_le, iI_eq, lI_lt, lI_le, lI_eq, zb_0, zb_fit, zb_fit0, zb_fit1, i_one_zero, i_w_in, z_tb0, z_tb1, z_tb2, z_tb3, z_tb4, z_tb5, z_tb6, z_tb7, z_tb8, z_tbl, z_tu0, z_tu1, z_tu2, z_i_62, z_i_63, z_i_86, z_i_88, z_l_Y, z_ui_62, z_ui_63, z_ui_86, z_ui_88, z_ul_Y, z_sz_Y, z_sw_Y, iI_nat, z_ix_t, z_at, Int.add_zero, Int.sub_zero, Int.zero_add, Int.mul_zero, ne_eq, Bool.false_eq_true, Bool.true_eq_false, reduceCtorEq, eq_self, and_true, true_and, and_false, false_and, and_self, not_true_eq_false, not_false_eq_true, decide_true, decide_false, ↓reduceIte, Int.reduceEq, Int.reduceNe, Int.reduceLT, Int.reduceLE, Int.reduceAdd, Int.reduceSub, Int.reduceMul, Int.reduceNeg, Nat.reduceAdd, Nat.reduceEqDiff, Nat.reduceBEq, ↓z_x_eq, z_g_t, z_bI_s, z_bL_s, z_bR_s, z_bV_s, Int.cast_ofNat_Int, beq_self_eq_true, Bool.and_true, Bool.true_and, Bool.and_self, Bool.or_true, Bool.true_or, Bool.false_and, Bool.and_false, Bool.false_or, Bool.or_false, Bool.not_false, Bool.not_true, if_true, if_false, ite_true, ite_false, z_up_eq, z_up_app, z_ro_eq, c]
    · by_cases q : i' = i
      · rw [q]; exact hB.2 j' f (by omega)
      · exact hB.1 i' j' a (by omega) f g
  | m + 1, j, B, s, h0, h, hB => by
    have c : (j < n) = True := eq_true (by omega)
    have m1 := hQ.1.1.2.1
    have m0 := hQ.1.1.1
    have hQ' : c_q T (z_up G 74 B) := cq_eq hQ (fun r a => z_up_ne _ _ (by omega))
    have hp := hP j h0 (by omega)
    have mp := mo_p hQ.1.1 (G 71 i) hM.1 hM.2
    have o2 := (dw_o hQ.1 (G 71 i) hM.1 hM.2).2
    have dp := (dw_p hQ.1 (G 71 i) hM.1 hM.2).2.2
    have u := (dw_m hQ.1).1
    have e81 : z_up G 74 B 81 = G 81 := z_up_ne _ _ (by omega)
    have e83 : z_up G 74 B 83 = G 83 := z_up_ne _ _ (by omega)
    obtain ⟨v, τ, eb, rfl, s1, rfl⟩ := p_cbreath d T (z_up G 74 B) s (p := G 71 i) (b := b) (st := G 72 j) (hw := G 81 (32 + 5 * G 71 i + 4)) (us := G 81 8) (sa := G 81 (32 + 5 * G 71 i + 2)) hQ' (by rw [e81]; exact hM) hb (by rw [e81]; omega) (by omega) (by omega)
    rw [e81, e83] at eb
    have hB2 : s_bt (G 81) (G 83) (G 71) (G 72) b n (z_ro B (i * 5 + j) (t_breath (G 81) (G 83) (G 71 i) b (G 72 j) (G 81 (32 + 5 * G 71 i + 4)) (G 81 8) (G 81 (32 + 5 * G 71 i + 2)))) i (j + 1) := by
      refine ⟨fun i' j' a e f g => ?_, fun j' a e => ?_⟩
      · rw [z_ro_ne _ _ (by omega)]; exact hB.1 i' j' a e f g
      · by_cases q : j' = j
        · rw [q, z_ro_eq]; rfl
        · rw [z_ro_ne _ _ (by omega)]; exact hB.2 j' a (by omega)
    obtain ⟨B', s', ih, k⟩ := p_ch_43 d T G (no := no) (ot := ot) hQ hb hn hi hM hP m (j + 1) _ s1 (by omega) (by omega) hB2
    refine ⟨B', s', ?_, k⟩
    rw [← ih, e_Ga_countHeld_43]
    simp -implicitDefEqProofs (disch := first | assumption | omega | rfl | (simp only [z_up_eq, z_up_app, ↓reduceIte, Nat.reduceEqDiff]; omega)) only [z_lit0, z_lit1, z_lit2, z_litl, iI_add, iI_sub, iI_mul, iI_neg, iI_and, iI_or, iI_xor, iI_shl, iI_shr, iI_ushr, iI_div, iI_b, iI_c, iI_i2l, lI_l2i, lI_add, lI_sub, lI_mul, lI_neg, lI_div, lI_or, lI_and, lI_shl, lI_shr, nI_iI, lg_lt0, lg_gt0, lg_eq0, i_ne0', l_ne0', iI_lt, iI_le, iI_eq, lI_lt, lI_le, lI_eq, zb_0, zb_fit, zb_fit0, zb_fit1, i_one_zero, i_w_in, z_tb0, z_tb1, z_tb2, z_tb3, z_tb4, z_tb5, z_tb6, z_tb7, z_tb8, z_tbl, z_tu0, z_tu1, z_tu2, z_i_62, z_i_63, z_i_86, z_i_88, z_l_Y, z_ui_62, z_ui_63, z_ui_86, z_ui_88, z_ul_Y, z_sz_Y, z_sw_Y, iI_nat, z_ix_t, z_at, Int.add_zero, Int.sub_zero, Int.zero_add, Int.mul_zero, ne_eq, Bool.false_eq_true, Bool.true_eq_false, reduceCtorEq, eq_self, and_true, true_and, and_false, false_and, and_self, not_true_eq_false, not_false_eq_true, decide_true, decide_false, ↓reduceIte, Int.reduceEq, Int.reduceNe, Int.reduceLT, Int.reduceLE, Int.reduceAdd, Int.reduceSub, Int.reduceMul, Int.reduceNeg, Nat.reduceAdd, Nat.reduceEqDiff, Nat.reduceBEq, ↓z_x_eq, z_g_t, z_bI_s, z_bL_s, z_bR_s, z_bV_s, Int.cast_ofNat_Int, beq_self_eq_true, Bool.and_true, Bool.true_and, Bool.and_self, Bool.or_true, Bool.true_or, Bool.false_and, Bool.and_false, Bool.false_or, Bool.or_false, Bool.not_false, Bool.not_true, if_true, if_false, ite_true, ite_false, z_up_eq, z_up_app, z_ro_eq, c, o2, dp, u, eb, z_up_up]
theorem p_ch_25 (d : Nat) (T : ZT) (G : ZG) {n : Nat} {no b ot : Int} (hQ : c_q T G) (hb : 0 ≤ b ∧ b ≤ 20000) (hn : n ≤ 5) (hM : ∀ i : Int, 0 ≤ i → i < n → 0 ≤ G 71 i ∧ G 71 i < G 81 1) (hP : ∀ j : Int, 0 ≤ j → j < n → 0 ≤ G 72 j ∧ G 72 j < G 81 0) : ∀ (m : Nat) (i : Int) (B : Int → Int) (s : ZG × ZG), 0 ≤ i → i + m = n → s_bt (G 81) (G 83) (G 71) (G 72) b n B i 0 → ∃ B' s', z_w d_Ga_countHeld (z_call (d + 4)) 25 [some (vr 70), some (vi (iI no)), some (vi (iI n)), none, none, some (vi (iI b)), some (vi (iI ot)), some (vi (iI i)), none, none, none] [] (z_Y T (z_up G 74 B) s) = z_w d_Ga_countHeld (z_call (d + 4)) 25 [some (vr 70), some (vi (iI no)), some (vi (iI n)), none, none, some (vi (iI b)), some (vi (iI ot)), some (vi (iI n)), none, none, none] [] (z_Y T (z_up G 74 B') s') ∧ s_bt (G 81) (G 83) (G 71) (G 72) b n B' n 0
  | 0, i, B, s, h0, h, hB => by
    have e : i = n := by omega
    subst e
    exact ⟨B, s, rfl, hB⟩
  | m + 1, i, B, s, h0, h, hB => by
    have c : (i < n) = True := eq_true (by omega)
    obtain ⟨B1, s1, e1, k1⟩ := p_ch_43 d T G (no := no) (ot := ot) hQ hb hn ⟨h0, by omega⟩ (hM i h0 (by omega)) hP n 0 B s (by omega) (by omega) hB
    obtain ⟨B2, s2, e2, k2⟩ := p_ch_25 d T G (no := no) (ot := ot) hQ hb hn hM hP m (i + 1) B1 s1 (by omega) (by omega) k1
    refine ⟨B2, s2, ?_, k2⟩
    rw [← e2, ← e1, e_Ga_countHeld_25]
    simp -implicitDefEqProofs (disch := first | assumption | omega | rfl | (simp only [z_up_eq, z_up_app, ↓reduceIte, Nat.reduceEqDiff]; omega)) only [z_lit0, z_lit1, z_lit2, z_litl, iI_add, iI_sub, iI_mul, iI_neg, iI_and, iI_or, iI_xor, iI_shl, iI_shr, iI_ushr, iI_div, iI_b, iI_c, iI_i2l, lI_l2i, lI_add, lI_sub, lI_mul, lI_neg, lI_div, lI_or, lI_and, lI_shl, lI_shr, nI_iI, lg_lt0, lg_gt0, lg_eq0, i_ne0', l_ne0', iI_lt, iI_le, iI_eq, lI_lt, lI_le, lI_eq, zb_0, zb_fit, zb_fit0, zb_fit1, i_one_zero, i_w_in, z_tb0, z_tb1, z_tb2, z_tb3, z_tb4, z_tb5, z_tb6, z_tb7, z_tb8, z_tbl, z_tu0, z_tu1, z_tu2, z_i_62, z_i_63, z_i_86, z_i_88, z_l_Y, z_ui_62, z_ui_63, z_ui_86, z_ui_88, z_ul_Y, z_sz_Y, z_sw_Y, iI_nat, z_ix_t, z_at, Int.add_zero, Int.sub_zero, Int.zero_add, Int.mul_zero, ne_eq, Bool.false_eq_true, Bool.true_eq_false, reduceCtorEq, eq_self, and_true, true_and, and_false, false_and, and_self, not_true_eq_false, not_false_eq_true, decide_true, decide_false, ↓reduceIte, Int.reduceEq, Int.reduceNe, Int.reduceLT, Int.reduceLE, Int.reduceAdd, Int.reduceSub, Int.reduceMul, Int.reduceNeg, Nat.reduceAdd, Nat.reduceEqDiff, Nat.reduceBEq, ↓z_x_eq, z_g_t, z_bI_s, z_bL_s, z_bR_s, z_bV_s, Int.cast_ofNat_Int, beq_self_eq_true, Bool.and_true, Bool.true_and, Bool.and_self, Bool.or_true, Bool.true_or, Bool.false_and, Bool.and_false, Bool.false_or, Bool.or_false, Bool.not_false, Bool.not_true, if_true, if_false, ite_true, ite_false, z_up_eq, z_up_app, z_ro_eq, c]
theorem p_wouldA (d : Nat) (T : ZT) (G : ZG) (s : ZG × ZG) {n ai : Int} (hQ : c_q T G) (hv : v_ok G n (G 64)) (ha : -1000 ≤ ai ∧ ai ≤ 1000) : ∃ V' s', z_call (d + 4) 240 [vr 61, vi (iI ai)] (z_Y T G s) = some (vi (iI (zb (m_holds (G 81) (G 83) (G 81 6) n ai (G 81 (82 + 2 * n))))), z_Y T (z_up G 64 V') s') ∧ v_ok G n V' := by
  have := p_would d T G s hQ hv ha
  rw [z_up_id] at this
  obtain ⟨v, τ, e, rfl, V', s', rfl, k⟩ := this
  exact ⟨V', s', e, k⟩
theorem v_ok_eq {G G' : ZG} {n : Int} {V : Int → Int} (h : v_ok G n V) (e61 : G' 61 = G 61) (e81 : G' 81 = G 81) (e83 : G' 83 = G 83) : v_ok G' n V := by
  unfold v_ok at *
  rw [e61, e81, e83]; exact h
/-- the air if they sat in this order -/
def s_ai (B : Int → Int) (n : Nat) (ot : Int) (E : Int → Int) : Int := ot + z_sum n 0 (fun i => B (i * 5 + E i))
theorem p_ch_156 (d : Nat) (T : ZT) (G : ZG) (s : ZG × ZG) {n : Nat} {ot k : Int} {E : Int → Int} (hn : n ≤ 5) (hO : o_ag n (G 73) E) (hE : ∀ i : Int, 0 ≤ i → i < n → 0 ≤ E i ∧ E i < n) : ∀ (m : Nat) (i acc : Int), 0 ≤ i → i + m = n → z_w d_Ga_countHeld (z_call d) 156 [some (vr 70), none, some (vi (iI n)), none, none, none, some (vi (iI ot)), none, some (vi (iI k)), some (vi (iI acc)), some (vi (iI i))] [] (z_Y T G s) = z_w d_Ga_countHeld (z_call d) 156 [some (vr 70), none, some (vi (iI n)), none, none, none, some (vi (iI ot)), none, some (vi (iI k)), some (vi (iI (acc + z_sum m i (fun i => G 74 (i * 5 + E i))))), some (vi (iI n))] [] (z_Y T G s)
  | 0, i, acc, h0, h => by
    have e : i = n := by omega
    subst e
    show _ = z_w _ _ _ [_, _, _, _, _, _, _, _, _, some (vi (iI (acc + 0))), _] _ _
    rw [Int.add_zero]
  | m + 1, i, acc, h0, h => by
    have c : (i < n) = True := eq_true (by omega)
    have eo := hO i h0 (by omega)
    have le := hE i h0 (by omega)
    show _ = z_w _ _ _ [_, _, _, _, _, _, _, _, _, some (vi (iI (acc + (G 74 (i * 5 + E i) + z_sum m (i + 1) (fun i => G 74 (i * 5 + E i)))))), _] _ _
    rw [← Int.add_assoc, ← p_ch_156 d T G s hn hO hE m (i + 1) (acc + G 74 (i * 5 + E i)) (by omega) (by omega), e_Ga_countHeld_156]
    simp -implicitDefEqProofs (disch := first | assumption | omega | rfl | (simp only [z_up_eq, z_up_app, ↓reduceIte, Nat.reduceEqDiff]; omega)) only [z_lit0, z_lit1, z_lit2, z_litl, iI_add, iI_sub, iI_mul, iI_neg, iI_and, iI_or, iI_xor, iI_shl, iI_shr, iI_ushr, iI_div, iI_b, iI_c, iI_i2l, lI_l2i, lI_add, lI_sub, lI_mul, lI_neg, lI_div, lI_or, lI_and, lI_shl, lI_shr, nI_iI, lg_lt0, lg_gt0, lg_eq0, i_ne0', l_ne0', iI_lt, iI_le, iI_eq, lI_lt, lI_le, lI_eq, zb_0, zb_fit, zb_fit0, zb_fit1, i_one_zero, i_w_in, z_tb0, z_tb1, z_tb2, z_tb3, z_tb4, z_tb5, z_tb6, z_tb7, z_tb8, z_tbl, z_tu0, z_tu1, z_tu2, z_i_62, z_i_63, z_i_86, z_i_88, z_l_Y, z_ui_62, z_ui_63, z_ui_86, z_ui_88, z_ul_Y, z_sz_Y, z_sw_Y, iI_nat, z_ix_t, z_at, Int.add_zero, Int.sub_zero, Int.zero_add, Int.mul_zero, ne_eq, Bool.false_eq_true, Bool.true_eq_false, reduceCtorEq, eq_self, and_true, true_and, and_false, false_and, and_self, not_true_eq_false, not_false_eq_true, decide_true, decide_false, ↓reduceIte, Int.reduceEq, Int.reduceNe, Int.reduceLT, Int.reduceLE, Int.reduceAdd, Int.reduceSub, Int.reduceMul, Int.reduceNeg, Nat.reduceAdd, Nat.reduceEqDiff, Nat.reduceBEq, ↓z_x_eq, z_g_t, z_bI_s, z_bL_s, z_bR_s, z_bV_s, Int.cast_ofNat_Int, beq_self_eq_true, Bool.and_true, Bool.true_and, Bool.and_self, Bool.or_true, Bool.true_or, Bool.false_and, Bool.and_false, Bool.false_or, Bool.or_false, Bool.not_false, Bool.not_true, if_true, if_false, ite_true, ite_false, z_up_eq, z_up_app, z_ro_eq, c, eo]
/-- what was held of each order, one note more -/
def s_hd (Hd Hd' : Int → Int) (P : (Int → Int) → Bool) : List (List Nat) → Int → Prop
  | [], k => ∀ j : Int, k ≤ j → j < 120 → Hd' j = Hd j
  | L :: R, k => Hd' k = Hd k + zb (P (o_e L)) ∧ s_hd Hd Hd' P R (k + 1)
theorem s_hd_cg {Hd Hd2 Hd' : Int → Int} {P : (Int → Int) → Bool} : ∀ (R : List (List Nat)) (k : Int), (∀ j, k ≤ j → Hd2 j = Hd j) → s_hd Hd2 Hd' P R k → s_hd Hd Hd' P R k
  | [], k, h, hs => fun j a b => by rw [hs j a b, h j a]
  | L :: R, k, h, hs => ⟨by rw [hs.1, h k (by omega)], s_hd_cg R (k + 1) (fun j a => h j (by omega)) hs.2⟩
theorem p_ch_137 (d : Nat) (T : ZT) (G : ZG) {n : Nat} {no ot : Int} (hQ : c_q T G) (hn : 1 ≤ n ∧ n ≤ 5) (ha : ∀ L, o_okL n L = true → -1000 ≤ s_ai (G 74) n ot (o_e L) ∧ s_ai (G 74) n ot (o_e L) ≤ 1000) : ∀ (R : List (List Nat)) (L : List Nat) (k : Int) (G1 : ZG) (s : ZG × ZG), o_chk n (L :: R) = true → 0 ≤ k → k + R.length < 120 → (∀ r, r ≠ 64 → r ≠ 73 → r ≠ 75 → G1 r = G r) → v_ok G1 no (G1 64) → o_ag n (G1 73) (o_e L) → ∃ G2 s2, z_w d_Ga_countHeld (z_call (d + 4)) 137 [some (vr 70), none, some (vi (iI n)), none, none, none, some (vi (iI ot)), some (vi (iI 1)), some (vi (iI k)), none, none] [] (z_Y T G1 s) = some (vi (iI 0), z_Y T G2 s2) ∧ (∀ r, r ≠ 64 → r ≠ 73 → r ≠ 75 → G2 r = G r) ∧ v_ok G2 no (G2 64) ∧ (∀ j : Int, 0 ≤ j → j < k → G2 75 j = G1 75 j) ∧ s_hd (G1 75) (G2 75) (fun E => m_holds (G 81) (G 83) (G 81 6) no (s_ai (G 74) n ot E) (G 81 (82 + 2 * no))) (L :: R) k := by
  have fin : ∀ (k : Int) (G1 : ZG) s, i_in k → z_w d_Ga_countHeld (z_call (d + 4)) 137 [some (vr 70), none, some (vi (iI n)), none, none, none, some (vi (iI ot)), some (vi (iI 0)), some (vi (iI k)), none, none] [] (z_Y T G1 s) = some (vi (iI 0), z_Y T G1 s) := by
    intro k G1 s hk
    rw [e_Ga_countHeld_137]
    by_cases c : k < 120
    · simp -implicitDefEqProofs (disch := first | assumption | omega | rfl | (simp only [z_up_eq, z_up_app, ↓reduceIte, Nat.reduceEqDiff]; omega)) only [z_lit0, z_lit1, z_lit2, z_litl, iI_add, iI_sub, iI_mul, iI_neg, iI_and, iI_or, iI_xor, iI_shl, iI_shr, iI_ushr, iI_div, iI_b, iI_c, iI_i2l, lI_l2i, lI_add, lI_sub, lI_mul, lI_neg, lI_div, lI_or, lI_and, lI_shl, lI_shr, nI_iI, lg_lt0, lg_gt0, lg_eq0, i_ne0', l_ne0', iI_lt, iI_le, iI_eq, lI_lt, lI_le, lI_eq, zb_0, zb_fit, zb_fit0, zb_fit1, i_one_zero, i_w_in, z_tb0, z_tb1, z_tb2, z_tb3, z_tb4, z_tb5, z_tb6, z_tb7, z_tb8, z_tbl, z_tu0, z_tu1, z_tu2, z_i_62, z_i_63, z_i_86, z_i_88, z_l_Y, z_ui_62, z_ui_63, z_ui_86, z_ui_88, z_ul_Y, z_sz_Y, z_sw_Y, iI_nat, z_ix_t, z_at, Int.add_zero, Int.sub_zero, Int.zero_add, Int.mul_zero, ne_eq, Bool.false_eq_true, Bool.true_eq_false, reduceCtorEq, eq_self, and_true, true_and, and_false, false_and, and_self, not_true_eq_false, not_false_eq_true, decide_true, decide_false, ↓reduceIte, Int.reduceEq, Int.reduceNe, Int.reduceLT, Int.reduceLE, Int.reduceAdd, Int.reduceSub, Int.reduceMul, Int.reduceNeg, Nat.reduceAdd, Nat.reduceEqDiff, Nat.reduceBEq, ↓z_x_eq, z_g_t, z_bI_s, z_bL_s, z_bR_s, z_bV_s, Int.cast_ofNat_Int, beq_self_eq_true, Bool.and_true, Bool.true_and, Bool.and_self, Bool.or_true, Bool.true_or, Bool.false_and, Bool.and_false, Bool.false_or, Bool.or_false, Bool.not_false, Bool.not_true, if_true, if_false, ite_true, ite_false, z_up_eq, z_up_app, z_ro_eq, c]
    · simp -implicitDefEqProofs (disch := first | assumption | omega | rfl | (simp only [z_up_eq, z_up_app, ↓reduceIte, Nat.reduceEqDiff]; omega)) only [z_lit0, z_lit1, z_lit2, z_litl, iI_add, iI_sub, iI_mul, iI_neg, iI_and, iI_or, iI_xor, iI_shl, iI_shr, iI_ushr, iI_div, iI_b, iI_c, iI_i2l, lI_l2i, lI_add, lI_sub, lI_mul, lI_neg, lI_div, lI_or, lI_and, lI_shl, lI_shr, nI_iI, lg_lt0, lg_gt0, lg_eq0, i_ne0', l_ne0', iI_lt, iI_le, iI_eq, lI_lt, lI_le, lI_eq, zb_0, zb_fit, zb_fit0, zb_fit1, i_one_zero, i_w_in, z_tb0, z_tb1, z_tb2, z_tb3, z_tb4, z_tb5, z_tb6, z_tb7, z_tb8, z_tbl, z_tu0, z_tu1, z_tu2, z_i_62, z_i_63, z_i_86, z_i_88, z_l_Y, z_ui_62, z_ui_63, z_ui_86, z_ui_88, z_ul_Y, z_sz_Y, z_sw_Y, iI_nat, z_ix_t, z_at, Int.add_zero, Int.sub_zero, Int.zero_add, Int.mul_zero, ne_eq, Bool.false_eq_true, Bool.true_eq_false, reduceCtorEq, eq_self, and_true, true_and, and_false, false_and, and_self, not_true_eq_false, not_false_eq_true, decide_true, decide_false, ↓reduceIte, Int.reduceEq, Int.reduceNe, Int.reduceLT, Int.reduceLE, Int.reduceAdd, Int.reduceSub, Int.reduceMul, Int.reduceNeg, Nat.reduceAdd, Nat.reduceEqDiff, Nat.reduceBEq, ↓z_x_eq, z_g_t, z_bI_s, z_bL_s, z_bR_s, z_bV_s, Int.cast_ofNat_Int, beq_self_eq_true, Bool.and_true, Bool.true_and, Bool.and_self, Bool.or_true, Bool.true_or, Bool.false_and, Bool.and_false, Bool.false_or, Bool.or_false, Bool.not_false, Bool.not_true, if_true, if_false, ite_true, ite_false, z_up_eq, z_up_app, z_ro_eq, c]
  have key : ∀ (L : List Nat) (k : Int) (G1 : ZG) s, o_okL n L = true → 0 ≤ k → k < 120 → (∀ r, r ≠ 64 → r ≠ 73 → r ≠ 75 → G1 r = G r) → v_ok G1 no (G1 64) → o_ag n (G1 73) (o_e L) → ∃ G2 s2, z_w d_Ga_countHeld (z_call (d + 4)) 137 [some (vr 70), none, some (vi (iI n)), none, none, none, some (vi (iI ot)), some (vi (iI 1)), some (vi (iI k)), none, none] [] (z_Y T G1 s) = z_w d_Ga_countHeld (z_call (d + 4)) 137 [some (vr 70), none, some (vi (iI n)), none, none, none, some (vi (iI ot)), some (vi (iI (zb (o_nx n (o_e L)).1))), some (vi (iI (k + 1))), none, none] [] (z_Y T G2 s2) ∧ (∀ r, r ≠ 64 → r ≠ 73 → r ≠ 75 → G2 r = G r) ∧ v_ok G2 no (G2 64) ∧ o_ag n (G2 73) (o_nx n (o_e L)).2 ∧ G2 75 = z_ro (G1 75) k (G1 75 k + zb (m_holds (G 81) (G 83) (G 81 6) no (s_ai (G 74) n ot (o_e L)) (G 81 (82 + 2 * no)))) := by
    intro L k G1 s hL h0 h1 hG1 hv hO
    have hk : (k < 120) = True := eq_true h1
    have hE := o_okL_in hL
    have g74 := hG1 74 (by omega) (by omega) (by omega)
    have g81 := hG1 81 (by omega) (by omega) (by omega)
    have g83 := hG1 83 (by omega) (by omega) (by omega)
    have hQ1 : c_q T G1 := cq_eq hQ (fun r a => hG1 r (by omega) (by omega) (by omega))
    have e156 := p_ch_156 (d + 4) T G1 s (ot := ot) (k := k) (E := o_e L) hn.2 hO hE n 0 ot (by omega) (by omega)
    rw [g74] at e156
    obtain ⟨V', s1, ew, hv'⟩ := p_wouldA d T G1 s (n := no) (ai := s_ai (G 74) n ot (o_e L)) hQ1 hv (ha L hL)
    rw [g81, g83] at ew
    have nn : ((n : Int) < n) = False := eq_false (by omega)
    have fin2 : ∀ z : Int, ∃ G2 s2, z_bI (z_call (d + 4) 242 [vr 70, vi (iI n)] (z_Y T (z_up (z_up G1 64 V') 75 (z_ro (G1 75) k z)) s1)) (fun v6 σ5 => z_w d_Ga_countHeld (z_call (d + 4)) 137 [some (vr 70), none, some (vi (iI n)), none, none, none, some (vi (iI ot)), some (vi v6), some (vi (iI (k + 1))), none, none] [] σ5) = z_w d_Ga_countHeld (z_call (d + 4)) 137 [some (vr 70), none, some (vi (iI n)), none, none, none, some (vi (iI ot)), some (vi (iI (zb (o_nx n (o_e L)).1))), some (vi (iI (k + 1))), none, none] [] (z_Y T G2 s2) ∧ (∀ r, r ≠ 64 → r ≠ 73 → r ≠ 75 → G2 r = G r) ∧ v_ok G2 no (G2 64) ∧ o_ag n (G2 73) (o_nx n (o_e L)).2 ∧ G2 75 = z_ro (G1 75) k z := by
      intro z
      obtain ⟨O', en, hO'⟩ := p_nx (d + 2) T (z_up (z_up G1 64 V') 75 (z_ro (G1 75) k z)) s1 (n := n) (E := o_e L) hn (by rw [z_up_ne _ _ (by omega), z_up_ne _ _ (by omega)]; exact hO) (fun i a b => by have := hE i a b; exact ⟨by omega, by omega⟩)
      refine ⟨_, s1, by rw [en]; rfl, fun r a b e => ?_, ?_, ?_, ?_⟩
      · rw [z_up_ne _ _ b, z_up_ne _ _ e, z_up_ne _ _ a]; exact hG1 r a b e
      · rw [z_up_ne _ _ (show 64 ≠ 73 by omega), z_up_ne _ _ (show 64 ≠ 75 by omega), z_up_eq]
        exact v_ok_eq hv' (by rw [z_up_ne _ _ (by omega), z_up_ne _ _ (by omega), z_up_ne _ _ (by omega)]) (by rw [z_up_ne _ _ (by omega), z_up_ne _ _ (by omega), z_up_ne _ _ (by omega)]) (by rw [z_up_ne _ _ (by omega), z_up_ne _ _ (by omega), z_up_ne _ _ (by omega)])
      · rw [z_up_eq]; exact hO'
      · rw [z_up_ne _ _ (by omega), z_up_eq]
    generalize hai : s_ai (G 74) n ot (o_e L) = ai at *
    unfold s_ai at hai
    rw [hai] at e156
    cases hb : m_holds (G 81) (G 83) (G 81 6) no ai (G 81 (82 + 2 * no))
    · obtain ⟨G2, s2, q1, q2, q3, q4, q5⟩ := fin2 (G1 75 k + 0)
      rw [hb] at ew
      refine ⟨G2, s2, ?_, q2, q3, q4, by rw [q5, zb_f]⟩
      rw [← q1, e_Ga_countHeld_137]
      simp -implicitDefEqProofs (disch := first | assumption | omega | rfl | (simp only [z_up_eq, z_up_app, ↓reduceIte, Nat.reduceEqDiff]; omega)) only [z_lit0, z_lit1, z_lit2, z_litl, iI_add, iI_sub, iI_mul, iI_neg, iI_and, iI_or, iI_xor, iI_shl, iI_shr, iI_ushr, iI_div, iI_b, iI_c, iI_i2l, lI_l2i, lI_add, lI_sub, lI_mul, lI_neg, lI_div, lI_or, lI_and, lI_shl, lI_shr, nI_iI, lg_lt0, lg_gt0, lg_eq0, i_ne0', l_ne0', iI_lt, iI_le, iI_eq, lI_lt, lI_le, lI_eq, zb_0, zb_fit, zb_fit0, zb_fit1, i_one_zero, i_w_in, z_tb0, z_tb1, z_tb2, z_tb3, z_tb4, z_tb5, z_tb6, z_tb7, z_tb8, z_tbl, z_tu0, z_tu1, z_tu2, z_i_62, z_i_63, z_i_86, z_i_88, z_l_Y, z_ui_62, z_ui_63, z_ui_86, z_ui_88, z_ul_Y, z_sz_Y, z_sw_Y, iI_nat, z_ix_t, z_at, Int.add_zero, Int.sub_zero, Int.zero_add, Int.mul_zero, ne_eq, Bool.false_eq_true, Bool.true_eq_false, reduceCtorEq, eq_self, and_true, true_and, and_false, false_and, and_self, not_true_eq_false, not_false_eq_true, decide_true, decide_false, ↓reduceIte, Int.reduceEq, Int.reduceNe, Int.reduceLT, Int.reduceLE, Int.reduceAdd, Int.reduceSub, Int.reduceMul, Int.reduceNeg, Nat.reduceAdd, Nat.reduceEqDiff, Nat.reduceBEq, ↓z_x_eq, z_g_t, z_bI_s, z_bL_s, z_bR_s, z_bV_s, Int.cast_ofNat_Int, beq_self_eq_true, Bool.and_true, Bool.true_and, Bool.and_self, Bool.or_true, Bool.true_or, Bool.false_and, Bool.and_false, Bool.false_or, Bool.or_false, Bool.not_false, Bool.not_true, if_true, if_false, ite_true, ite_false, z_up_eq, z_up_app, z_ro_eq, hk, e156]
      rw [e_Ga_countHeld_156]
      simp -implicitDefEqProofs (disch := first | assumption | omega | rfl | (simp only [z_up_eq, z_up_app, ↓reduceIte, Nat.reduceEqDiff]; omega)) only [z_lit0, z_lit1, z_lit2, z_litl, iI_add, iI_sub, iI_mul, iI_neg, iI_and, iI_or, iI_xor, iI_shl, iI_shr, iI_ushr, iI_div, iI_b, iI_c, iI_i2l, lI_l2i, lI_add, lI_sub, lI_mul, lI_neg, lI_div, lI_or, lI_and, lI_shl, lI_shr, nI_iI, lg_lt0, lg_gt0, lg_eq0, i_ne0', l_ne0', iI_lt, iI_le, iI_eq, lI_lt, lI_le, lI_eq, zb_0, zb_fit, zb_fit0, zb_fit1, i_one_zero, i_w_in, z_tb0, z_tb1, z_tb2, z_tb3, z_tb4, z_tb5, z_tb6, z_tb7, z_tb8, z_tbl, z_tu0, z_tu1, z_tu2, z_i_62, z_i_63, z_i_86, z_i_88, z_l_Y, z_ui_62, z_ui_63, z_ui_86, z_ui_88, z_ul_Y, z_sz_Y, z_sw_Y, iI_nat, z_ix_t, z_at, Int.add_zero, Int.sub_zero, Int.zero_add, Int.mul_zero, ne_eq, Bool.false_eq_true, Bool.true_eq_false, reduceCtorEq, eq_self, and_true, true_and, and_false, false_and, and_self, not_true_eq_false, not_false_eq_true, decide_true, decide_false, ↓reduceIte, Int.reduceEq, Int.reduceNe, Int.reduceLT, Int.reduceLE, Int.reduceAdd, Int.reduceSub, Int.reduceMul, Int.reduceNeg, Nat.reduceAdd, Nat.reduceEqDiff, Nat.reduceBEq, ↓z_x_eq, z_g_t, z_bI_s, z_bL_s, z_bR_s, z_bV_s, Int.cast_ofNat_Int, beq_self_eq_true, Bool.and_true, Bool.true_and, Bool.and_self, Bool.or_true, Bool.true_or, Bool.false_and, Bool.and_false, Bool.false_or, Bool.or_false, Bool.not_false, Bool.not_true, if_true, if_false, ite_true, ite_false, z_up_eq, z_up_app, z_ro_eq, nn, ew, zb_f]
    · obtain ⟨G2, s2, q1, q2, q3, q4, q5⟩ := fin2 (G1 75 k + 1)
      rw [hb] at ew
      refine ⟨G2, s2, ?_, q2, q3, q4, by rw [q5, zb_t]⟩
      rw [← q1, e_Ga_countHeld_137]
      simp -implicitDefEqProofs (disch := first | assumption | omega | rfl | (simp only [z_up_eq, z_up_app, ↓reduceIte, Nat.reduceEqDiff]; omega)) only [z_lit0, z_lit1, z_lit2, z_litl, iI_add, iI_sub, iI_mul, iI_neg, iI_and, iI_or, iI_xor, iI_shl, iI_shr, iI_ushr, iI_div, iI_b, iI_c, iI_i2l, lI_l2i, lI_add, lI_sub, lI_mul, lI_neg, lI_div, lI_or, lI_and, lI_shl, lI_shr, nI_iI, lg_lt0, lg_gt0, lg_eq0, i_ne0', l_ne0', iI_lt, iI_le, iI_eq, lI_lt, lI_le, lI_eq, zb_0, zb_fit, zb_fit0, zb_fit1, i_one_zero, i_w_in, z_tb0, z_tb1, z_tb2, z_tb3, z_tb4, z_tb5, z_tb6, z_tb7, z_tb8, z_tbl, z_tu0, z_tu1, z_tu2, z_i_62, z_i_63, z_i_86, z_i_88, z_l_Y, z_ui_62, z_ui_63, z_ui_86, z_ui_88, z_ul_Y, z_sz_Y, z_sw_Y, iI_nat, z_ix_t, z_at, Int.add_zero, Int.sub_zero, Int.zero_add, Int.mul_zero, ne_eq, Bool.false_eq_true, Bool.true_eq_false, reduceCtorEq, eq_self, and_true, true_and, and_false, false_and, and_self, not_true_eq_false, not_false_eq_true, decide_true, decide_false, ↓reduceIte, Int.reduceEq, Int.reduceNe, Int.reduceLT, Int.reduceLE, Int.reduceAdd, Int.reduceSub, Int.reduceMul, Int.reduceNeg, Nat.reduceAdd, Nat.reduceEqDiff, Nat.reduceBEq, ↓z_x_eq, z_g_t, z_bI_s, z_bL_s, z_bR_s, z_bV_s, Int.cast_ofNat_Int, beq_self_eq_true, Bool.and_true, Bool.true_and, Bool.and_self, Bool.or_true, Bool.true_or, Bool.false_and, Bool.and_false, Bool.false_or, Bool.or_false, Bool.not_false, Bool.not_true, if_true, if_false, ite_true, ite_false, z_up_eq, z_up_app, z_ro_eq, hk, e156]
      rw [e_Ga_countHeld_156]
      simp -implicitDefEqProofs (disch := first | assumption | omega | rfl | (simp only [z_up_eq, z_up_app, ↓reduceIte, Nat.reduceEqDiff]; omega)) only [z_lit0, z_lit1, z_lit2, z_litl, iI_add, iI_sub, iI_mul, iI_neg, iI_and, iI_or, iI_xor, iI_shl, iI_shr, iI_ushr, iI_div, iI_b, iI_c, iI_i2l, lI_l2i, lI_add, lI_sub, lI_mul, lI_neg, lI_div, lI_or, lI_and, lI_shl, lI_shr, nI_iI, lg_lt0, lg_gt0, lg_eq0, i_ne0', l_ne0', iI_lt, iI_le, iI_eq, lI_lt, lI_le, lI_eq, zb_0, zb_fit, zb_fit0, zb_fit1, i_one_zero, i_w_in, z_tb0, z_tb1, z_tb2, z_tb3, z_tb4, z_tb5, z_tb6, z_tb7, z_tb8, z_tbl, z_tu0, z_tu1, z_tu2, z_i_62, z_i_63, z_i_86, z_i_88, z_l_Y, z_ui_62, z_ui_63, z_ui_86, z_ui_88, z_ul_Y, z_sz_Y, z_sw_Y, iI_nat, z_ix_t, z_at, Int.add_zero, Int.sub_zero, Int.zero_add, Int.mul_zero, ne_eq, Bool.false_eq_true, Bool.true_eq_false, reduceCtorEq, eq_self, and_true, true_and, and_false, false_and, and_self, not_true_eq_false, not_false_eq_true, decide_true, decide_false, ↓reduceIte, Int.reduceEq, Int.reduceNe, Int.reduceLT, Int.reduceLE, Int.reduceAdd, Int.reduceSub, Int.reduceMul, Int.reduceNeg, Nat.reduceAdd, Nat.reduceEqDiff, Nat.reduceBEq, ↓z_x_eq, z_g_t, z_bI_s, z_bL_s, z_bR_s, z_bV_s, Int.cast_ofNat_Int, beq_self_eq_true, Bool.and_true, Bool.true_and, Bool.and_self, Bool.or_true, Bool.true_or, Bool.false_and, Bool.and_false, Bool.false_or, Bool.or_false, Bool.not_false, Bool.not_true, if_true, if_false, ite_true, ite_false, z_up_eq, z_up_app, z_ro_eq, nn, ew, zb_t]
  intro R
  induction R with
  | nil =>
    intro L k G1 s hchk h0 h1 hG1 hv hO
    obtain ⟨c1, c2⟩ := o_chk_1 hchk
    simp at h1
    obtain ⟨G2, s2, e, q2, q3, q4, q5⟩ := key L k G1 s c1 h0 h1 hG1 hv hO
    rw [c2] at e
    refine ⟨G2, s2, ?_, q2, q3, fun j a b => by rw [q5, z_ro_ne _ _ (by omega)], by rw [q5, z_ro_eq], fun j a b => by rw [q5, z_ro_ne _ _ (by omega)]⟩
    rw [e]
    exact fin (k + 1) G2 s2 ⟨by omega, by omega⟩
  | cons L' R ih =>
    intro L k G1 s hchk h0 h1 hG1 hv hO
    obtain ⟨c1, c2, c3, c4⟩ := o_chk_2 hchk
    have hlen : ((L' :: R).length : Int) = R.length + 1 := by simp
    rw [hlen] at h1
    obtain ⟨G2, s2, e, q2, q3, q4, q5⟩ := key L k G1 s c1 h0 (by omega) hG1 hv hO
    rw [c2] at e
    obtain ⟨G3, s3, e3, r2, r3, r4, r5⟩ := ih L' (k + 1) G2 s2 c4 (by omega) (by omega) q2 q3 (fun i a b => (q4 i a b).trans (c3 i a b))
    refine ⟨G3, s3, ?_, r2, r3, fun j a b => ?_, ?_, ?_⟩
    · rw [e]; exact e3
    · rw [r4 j a (by omega), q5, z_ro_ne _ _ (by omega)]
    · rw [r4 k h0 (by omega), q5, z_ro_eq]
    · exact s_hd_cg (L' :: R) (k + 1) (fun j a => by rw [q5, z_ro_ne _ _ (by omega)]) r5

/-! THE PURE PART, 94: the class's numbers -/
/-- a form's row from x on -/
def f_at (S : Int → Int) (e : Int) : Int → List (Int × Int × Int) → Prop
  | x, [] => x = e ∨ (x < e ∧ S x = 1)
  | x, f :: l => (x + 3 ≤ e ∧ S x = f.1 ∧ S (x + 1) = f.2.1 ∧ S (x + 2) = f.2.2 ∧ (2 ≤ f.1 ∧ f.1 ≤ 44) ∧ (0 ≤ f.2.1 ∧ f.2.1 ≤ f.2.2 ∧ f.2.2 ≤ 9999)) ∧ f_at S e (x + 3) l
section
variable {T : ZT} {G : ZG} {s : ZG × ZG} {K V X : Nat → Int} {N : Nat}
theorem p_nums {E : Nat} (hE : 3 ≤ E) (hT : q_tk G K V X N) {f : Int} (hf : 0 ≤ f ∧ f ≤ 81) : ∀ (l : List (Int × Int × Int)) (x u : Int) (j : Nat) (A : Int → Int), f_at (G 2) (f + 9) x l → 0 ≤ x → x ≤ f + 9 → 0 ≤ u → u + l.length ≤ 96 → j ≤ N → ((j_nums K V l j).1 = 0 → ∃ A', z_w d_Re_readNumbers (z_call E) 11 [some (vr 56), some (vi (iI f)), some (vi (iI u)), some (vi (iI x))] [] (z_Y T (q_G (z_up G 60 A) K V j []) s) = some (vi (iI 1), z_Y T (q_G (z_up G 60 A') K V (j_nums K V l j).2.1 []) s) ∧ (j_nums K V l j).2.1 ≤ N ∧ (∀ i, i < u → A' i = A i) ∧ (j_nums K V l j).2.2.length = l.length ∧ ∀ i : Nat, i < l.length → A' (u + i) = (j_nums K V l j).2.2.getD i 0) ∧ ((j_nums K V l j).1 ≠ 0 → ∃ A', z_w d_Re_readNumbers (z_call E) 11 [some (vr 56), some (vi (iI f)), some (vi (iI u)), some (vi (iI x))] [] (z_Y T (q_G (z_up G 60 A) K V j []) s) = some (vi (iI 0), z_Y T (q_F (q_G (z_up G 60 A') K V (j_nums K V l j).2.1 []) (j_nums K V l j).1 (X (j_nums K V l j).2.1)) s) ∧ 0 ≤ (j_nums K V l j).1 ∧ (j_nums K V l j).1 ≤ 6 ∧ (j_nums K V l j).2.1 ≤ N)
  | [], x, u, j, A, h, h0, h1, h2, h3, hj => by
    have e2 : q_G (z_up G 60 A) K V j [] 2 = G 2 := by rw [q_G_o _ _ _ _ _ (by omega), z_up_ne _ _ (by omega)]
    refine ⟨fun _ => ⟨A, ?_, hj, fun _ _ => rfl, rfl, fun i a => absurd a (Nat.not_lt_zero _)⟩, fun q => absurd rfl q⟩
    rw [e_Re_readNumbers_11]
    rcases h with h | ⟨h, h'⟩
    · have c : (x < f + 9) = False := eq_false (by omega)
      simp -implicitDefEqProofs (disch := first | assumption | omega | rfl | (simp only [z_up_eq, z_up_app, ↓reduceIte, Nat.reduceEqDiff]; omega)) only [z_lit0, z_lit1, z_lit2, z_litl, iI_add, iI_sub, iI_mul, iI_neg, iI_and, iI_or, iI_xor, iI_shl, iI_shr, iI_ushr, iI_div, iI_b, iI_c, iI_i2l, lI_l2i, lI_add, lI_sub, lI_mul, lI_neg, lI_div, lI_or, lI_and, lI_shl, lI_shr, nI_iI, lg_lt0, lg_gt0, lg_eq0, i_ne0', l_ne0', iI_lt, iI_le, iI_eq, lI_lt, lI_le, lI_eq, zb_0, zb_fit, zb_fit0, zb_fit1, i_one_zero, i_w_in, z_tb0, z_tb1, z_tb2, z_tb3, z_tb4, z_tb5, z_tb6, z_tb7, z_tb8, z_tbl, z_tu0, z_tu1, z_tu2, z_i_62, z_i_63, z_i_86, z_i_88, z_l_Y, z_ui_62, z_ui_63, z_ui_86, z_ui_88, z_ul_Y, z_sz_Y, z_sw_Y, iI_nat, z_ix_t, z_at, Int.add_zero, Int.sub_zero, Int.zero_add, Int.mul_zero, ne_eq, Bool.false_eq_true, Bool.true_eq_false, reduceCtorEq, eq_self, and_true, true_and, and_false, false_and, and_self, not_true_eq_false, not_false_eq_true, decide_true, decide_false, ↓reduceIte, Int.reduceEq, Int.reduceNe, Int.reduceLT, Int.reduceLE, Int.reduceAdd, Int.reduceSub, Int.reduceMul, Int.reduceNeg, Nat.reduceAdd, Nat.reduceEqDiff, Nat.reduceBEq, ↓z_x_eq, z_g_t, z_bI_s, z_bL_s, z_bR_s, z_bV_s, Int.cast_ofNat_Int, beq_self_eq_true, Bool.and_true, Bool.true_and, Bool.and_self, Bool.or_true, Bool.true_or, Bool.false_and, Bool.and_false, Bool.false_or, Bool.or_false, Bool.not_false, Bool.not_true, if_true, if_false, ite_true, ite_false, z_up_eq, z_up_app, z_ro_eq, c]
      rfl
    · have c : (x < f + 9) = True := eq_true h
      simp -implicitDefEqProofs (disch := first | assumption | omega | rfl | (simp only [z_up_eq, z_up_app, ↓reduceIte, Nat.reduceEqDiff]; omega)) only [z_lit0, z_lit1, z_lit2, z_litl, iI_add, iI_sub, iI_mul, iI_neg, iI_and, iI_or, iI_xor, iI_shl, iI_shr, iI_ushr, iI_div, iI_b, iI_c, iI_i2l, lI_l2i, lI_add, lI_sub, lI_mul, lI_neg, lI_div, lI_or, lI_and, lI_shl, lI_shr, nI_iI, lg_lt0, lg_gt0, lg_eq0, i_ne0', l_ne0', iI_lt, iI_le, iI_eq, lI_lt, lI_le, lI_eq, zb_0, zb_fit, zb_fit0, zb_fit1, i_one_zero, i_w_in, z_tb0, z_tb1, z_tb2, z_tb3, z_tb4, z_tb5, z_tb6, z_tb7, z_tb8, z_tbl, z_tu0, z_tu1, z_tu2, z_i_62, z_i_63, z_i_86, z_i_88, z_l_Y, z_ui_62, z_ui_63, z_ui_86, z_ui_88, z_ul_Y, z_sz_Y, z_sw_Y, iI_nat, z_ix_t, z_at, Int.add_zero, Int.sub_zero, Int.zero_add, Int.mul_zero, ne_eq, Bool.false_eq_true, Bool.true_eq_false, reduceCtorEq, eq_self, and_true, true_and, and_false, false_and, and_self, not_true_eq_false, not_false_eq_true, decide_true, decide_false, ↓reduceIte, Int.reduceEq, Int.reduceNe, Int.reduceLT, Int.reduceLE, Int.reduceAdd, Int.reduceSub, Int.reduceMul, Int.reduceNeg, Nat.reduceAdd, Nat.reduceEqDiff, Nat.reduceBEq, ↓z_x_eq, z_g_t, z_bI_s, z_bL_s, z_bR_s, z_bV_s, Int.cast_ofNat_Int, beq_self_eq_true, Bool.and_true, Bool.true_and, Bool.and_self, Bool.or_true, Bool.true_or, Bool.false_and, Bool.and_false, Bool.false_or, Bool.or_false, Bool.not_false, Bool.not_true, if_true, if_false, ite_true, ite_false, z_up_eq, z_up_app, z_ro_eq, c, e2, h']
      rfl
  | g :: l, x, u, j, A, h, h0, h1, h2, h3, hj => by
    have h3' : u + ((l.length + 1 : Nat) : Int) ≤ 96 := h3
    obtain ⟨⟨a0, a1, a2, a3, a4, a5⟩, h'⟩ := h
    have hN := hT.1
    have hT' : ∀ A, q_tk (z_up G 60 A) K V X N := fun A => by
      unfold q_tk
      rw [z_up_ne _ _ (show 57 ≠ 60 by omega), z_up_ne _ _ (show 58 ≠ 60 by omega)]
      exact hT
    have e2 : ∀ A j, q_G (z_up G 60 A) K V j [] 2 = G 2 := fun A j => by rw [q_G_o _ _ _ _ _ (by omega), z_up_ne _ _ (by omega)]
    have c : (x < f + 9) = True := eq_true (by omega)
    have n1 : (g.1 = 1) = False := eq_false (by omega)
    have ex := p_rexp (T := T) (s := s) (C := []) (E := E) hE (hT' A) hj (k := g.1) (by omega)
    have b := hT.2.2.2 (j + 1)
    have ez : j_nums K V (g :: l) j = if K j = g.1 then (if K (j + 1) = 2 then (if g.2.1 ≤ V (j + 1) ∧ V (j + 1) ≤ g.2.2 then ((j_nums K V l (j + 2)).1, (j_nums K V l (j + 2)).2.1, V (j + 1) :: (j_nums K V l (j + 2)).2.2) else (2, j + 1, [])) else (1, j + 1, [])) else (1, j, []) := rfl
    rw [ez]
    by_cases k1 : K j = g.1
    · rw [if_pos k1] at ex ⊢
      have jl := q_lt hT (show K j ≠ 0 by omega)
      have rf := fun n => p_rref (T := T) (s := s) (C := []) (E := E) (by omega) (hT' A) (j := j + 1) (by omega) n
      by_cases k2 : K (j + 1) = 2
      · have k2' : (K (j + 1) = 2) = True := eq_true k2
        have jl2 := q_lt hT (show K (j + 1) ≠ 0 by omega)
        rw [if_pos k2]
        by_cases k3 : g.2.1 ≤ V (j + 1) ∧ V (j + 1) ≤ g.2.2
        · have l1 : (V (j + 1) < g.2.1) = False := eq_false (by omega)
          have l2 : (g.2.2 < V (j + 1)) = False := eq_false (by omega)
          rw [if_pos k3]
          have nx := p_rnext (T := T) (s := s) (C := []) (E := E) (by omega) (hT' (z_ro A u (V (j + 1)))) (j := j + 1) (show K (j + 1) ≠ 0 by omega)
          have st : z_up (q_G (z_up G 60 A) K V (j + 1) []) 60 (z_ro A u (V (j + 1))) = q_G (z_up G 60 (z_ro A u (V (j + 1)))) K V (j + 1) [] := q_G_60 _ _ _ _
          have r60 : q_G (z_up G 60 A) K V (j + 1) [] 60 = A := by rw [q_G_o _ _ _ _ _ (by omega), z_up_eq]
          have em : z_w d_Re_readNumbers (z_call E) 11 [some (vr 56), some (vi (iI f)), some (vi (iI u)), some (vi (iI x))] [] (z_Y T (q_G (z_up G 60 A) K V j []) s) = z_w d_Re_readNumbers (z_call E) 11 [some (vr 56), some (vi (iI f)), some (vi (iI (u + 1))), some (vi (iI (x + 3)))] [] (z_Y T (q_G (z_up G 60 (z_ro A u (V (j + 1)))) K V (j + 2) []) s) := by
            rw [e_Re_readNumbers_11]
            simp -implicitDefEqProofs (disch := first | assumption | omega | rfl | (simp only [z_up_eq, z_up_app, ↓reduceIte, Nat.reduceEqDiff]; omega)) only [z_lit0, z_lit1, z_lit2, z_litl, iI_add, iI_sub, iI_mul, iI_neg, iI_and, iI_or, iI_xor, iI_shl, iI_shr, iI_ushr, iI_div, iI_b, iI_c, iI_i2l, lI_l2i, lI_add, lI_sub, lI_mul, lI_neg, lI_div, lI_or, lI_and, lI_shl, lI_shr, nI_iI, lg_lt0, lg_gt0, lg_eq0, i_ne0', l_ne0', iI_lt, iI_le, iI_eq, lI_lt, lI_le, lI_eq, zb_0, zb_fit, zb_fit0, zb_fit1, i_one_zero, i_w_in, z_tb0, z_tb1, z_tb2, z_tb3, z_tb4, z_tb5, z_tb6, z_tb7, z_tb8, z_tbl, z_tu0, z_tu1, z_tu2, z_i_62, z_i_63, z_i_86, z_i_88, z_l_Y, z_ui_62, z_ui_63, z_ui_86, z_ui_88, z_ul_Y, z_sz_Y, z_sw_Y, iI_nat, z_ix_t, z_at, Int.add_zero, Int.sub_zero, Int.zero_add, Int.mul_zero, ne_eq, Bool.false_eq_true, Bool.true_eq_false, reduceCtorEq, eq_self, and_true, true_and, and_false, false_and, and_self, not_true_eq_false, not_false_eq_true, decide_true, decide_false, ↓reduceIte, Int.reduceEq, Int.reduceNe, Int.reduceLT, Int.reduceLE, Int.reduceAdd, Int.reduceSub, Int.reduceMul, Int.reduceNeg, Nat.reduceAdd, Nat.reduceEqDiff, Nat.reduceBEq, ↓z_x_eq, z_g_t, z_bI_s, z_bL_s, z_bR_s, z_bV_s, Int.cast_ofNat_Int, beq_self_eq_true, Bool.and_true, Bool.true_and, Bool.and_self, Bool.or_true, Bool.true_or, Bool.false_and, Bool.and_false, Bool.false_or, Bool.or_false, Bool.not_false, Bool.not_true, if_true, if_false, ite_true, ite_false, z_up_eq, z_up_app, z_ro_eq, c, e2, a1, a2, a3, n1, ex, q_G_k, q_G_v, k2', l1, l2, r60, st, nx]
          rw [em]
          have ih := p_nums hE hT hf l (x + 3) (u + 1) (j + 2) (z_ro A u (V (j + 1))) h' (by omega) (by
            cases l with
            | nil =>
              rcases h' with z | z
              · omega
              · omega
            | cons g' l' => have := h'.1.1; omega) (by omega) (by omega) (by omega)
          refine ⟨fun z => ?_, fun z => ?_⟩
          · obtain ⟨A', i1, i2, i3, i4, i5⟩ := ih.1 z
            refine ⟨A', i1, i2, fun i a => by rw [i3 i (by omega), z_ro_ne _ _ (by omega)], by show (j_nums K V l (j + 2)).2.2.length + 1 = l.length + 1; rw [i4], fun i a => ?_⟩
            cases i with
            | zero =>
              rw [show u + ((0 : Nat) : Int) = u by omega, i3 u (by omega), z_ro_eq]; rfl
            | succ i =>
              have a' : i + 1 < l.length + 1 := a
              rw [show u + ((i + 1 : Nat) : Int) = u + 1 + i by omega, i5 i (by omega)]; rfl
          · exact ih.2 z
        · rw [if_neg k3]
          refine ⟨fun z => (by cases z), fun _ => ⟨A, ?_, by show (0 : Int) ≤ 2; decide, by show (2 : Int) ≤ 6; decide, by show j + 1 ≤ N; omega⟩⟩
          have rf2 := rf 2
          rw [e_Re_readNumbers_11]
          by_cases k4 : V (j + 1) < g.2.1
          · have l1 : (V (j + 1) < g.2.1) = True := eq_true k4
            simp -implicitDefEqProofs (disch := first | assumption | omega | rfl | (simp only [z_up_eq, z_up_app, ↓reduceIte, Nat.reduceEqDiff]; omega)) only [z_lit0, z_lit1, z_lit2, z_litl, iI_add, iI_sub, iI_mul, iI_neg, iI_and, iI_or, iI_xor, iI_shl, iI_shr, iI_ushr, iI_div, iI_b, iI_c, iI_i2l, lI_l2i, lI_add, lI_sub, lI_mul, lI_neg, lI_div, lI_or, lI_and, lI_shl, lI_shr, nI_iI, lg_lt0, lg_gt0, lg_eq0, i_ne0', l_ne0', iI_lt, iI_le, iI_eq, lI_lt, lI_le, lI_eq, zb_0, zb_fit, zb_fit0, zb_fit1, i_one_zero, i_w_in, z_tb0, z_tb1, z_tb2, z_tb3, z_tb4, z_tb5, z_tb6, z_tb7, z_tb8, z_tbl, z_tu0, z_tu1, z_tu2, z_i_62, z_i_63, z_i_86, z_i_88, z_l_Y, z_ui_62, z_ui_63, z_ui_86, z_ui_88, z_ul_Y, z_sz_Y, z_sw_Y, iI_nat, z_ix_t, z_at, Int.add_zero, Int.sub_zero, Int.zero_add, Int.mul_zero, ne_eq, Bool.false_eq_true, Bool.true_eq_false, reduceCtorEq, eq_self, and_true, true_and, and_false, false_and, and_self, not_true_eq_false, not_false_eq_true, decide_true, decide_false, ↓reduceIte, Int.reduceEq, Int.reduceNe, Int.reduceLT, Int.reduceLE, Int.reduceAdd, Int.reduceSub, Int.reduceMul, Int.reduceNeg, Nat.reduceAdd, Nat.reduceEqDiff, Nat.reduceBEq, ↓z_x_eq, z_g_t, z_bI_s, z_bL_s, z_bR_s, z_bV_s, Int.cast_ofNat_Int, beq_self_eq_true, Bool.and_true, Bool.true_and, Bool.and_self, Bool.or_true, Bool.true_or, Bool.false_and, Bool.and_false, Bool.false_or, Bool.or_false, Bool.not_false, Bool.not_true, if_true, if_false, ite_true, ite_false, z_up_eq, z_up_app, z_ro_eq, c, e2, a1, a2, a3, n1, ex, q_G_k, q_G_v, k2', l1, rf2]
          · have l1 : (V (j + 1) < g.2.1) = False := eq_false k4
            have l2 : (g.2.2 < V (j + 1)) = True := eq_true (by omega)
            simp -implicitDefEqProofs (disch := first | assumption | omega | rfl | (simp only [z_up_eq, z_up_app, ↓reduceIte, Nat.reduceEqDiff]; omega)) only [z_lit0, z_lit1, z_lit2, z_litl, iI_add, iI_sub, iI_mul, iI_neg, iI_and, iI_or, iI_xor, iI_shl, iI_shr, iI_ushr, iI_div, iI_b, iI_c, iI_i2l, lI_l2i, lI_add, lI_sub, lI_mul, lI_neg, lI_div, lI_or, lI_and, lI_shl, lI_shr, nI_iI, lg_lt0, lg_gt0, lg_eq0, i_ne0', l_ne0', iI_lt, iI_le, iI_eq, lI_lt, lI_le, lI_eq, zb_0, zb_fit, zb_fit0, zb_fit1, i_one_zero, i_w_in, z_tb0, z_tb1, z_tb2, z_tb3, z_tb4, z_tb5, z_tb6, z_tb7, z_tb8, z_tbl, z_tu0, z_tu1, z_tu2, z_i_62, z_i_63, z_i_86, z_i_88, z_l_Y, z_ui_62, z_ui_63, z_ui_86, z_ui_88, z_ul_Y, z_sz_Y, z_sw_Y, iI_nat, z_ix_t, z_at, Int.add_zero, Int.sub_zero, Int.zero_add, Int.mul_zero, ne_eq, Bool.false_eq_true, Bool.true_eq_false, reduceCtorEq, eq_self, and_true, true_and, and_false, false_and, and_self, not_true_eq_false, not_false_eq_true, decide_true, decide_false, ↓reduceIte, Int.reduceEq, Int.reduceNe, Int.reduceLT, Int.reduceLE, Int.reduceAdd, Int.reduceSub, Int.reduceMul, Int.reduceNeg, Nat.reduceAdd, Nat.reduceEqDiff, Nat.reduceBEq, ↓z_x_eq, z_g_t, z_bI_s, z_bL_s, z_bR_s, z_bV_s, Int.cast_ofNat_Int, beq_self_eq_true, Bool.and_true, Bool.true_and, Bool.and_self, Bool.or_true, Bool.true_or, Bool.false_and, Bool.and_false, Bool.false_or, Bool.or_false, Bool.not_false, Bool.not_true, if_true, if_false, ite_true, ite_false, z_up_eq, z_up_app, z_ro_eq, c, e2, a1, a2, a3, n1, ex, q_G_k, q_G_v, k2', l1, l2, rf2]
      · have k2' : (K (j + 1) = 2) = False := eq_false k2
        rw [if_neg k2]
        refine ⟨fun z => (by cases z), fun _ => ⟨A, ?_, by show (0 : Int) ≤ 1; decide, by show (1 : Int) ≤ 6; decide, by show j + 1 ≤ N; omega⟩⟩
        have rf1 := rf 1
        rw [e_Re_readNumbers_11]
        simp -implicitDefEqProofs (disch := first | assumption | omega | rfl | (simp only [z_up_eq, z_up_app, ↓reduceIte, Nat.reduceEqDiff]; omega)) only [z_lit0, z_lit1, z_lit2, z_litl, iI_add, iI_sub, iI_mul, iI_neg, iI_and, iI_or, iI_xor, iI_shl, iI_shr, iI_ushr, iI_div, iI_b, iI_c, iI_i2l, lI_l2i, lI_add, lI_sub, lI_mul, lI_neg, lI_div, lI_or, lI_and, lI_shl, lI_shr, nI_iI, lg_lt0, lg_gt0, lg_eq0, i_ne0', l_ne0', iI_lt, iI_le, iI_eq, lI_lt, lI_le, lI_eq, zb_0, zb_fit, zb_fit0, zb_fit1, i_one_zero, i_w_in, z_tb0, z_tb1, z_tb2, z_tb3, z_tb4, z_tb5, z_tb6, z_tb7, z_tb8, z_tbl, z_tu0, z_tu1, z_tu2, z_i_62, z_i_63, z_i_86, z_i_88, z_l_Y, z_ui_62, z_ui_63, z_ui_86, z_ui_88, z_ul_Y, z_sz_Y, z_sw_Y, iI_nat, z_ix_t, z_at, Int.add_zero, Int.sub_zero, Int.zero_add, Int.mul_zero, ne_eq, Bool.false_eq_true, Bool.true_eq_false, reduceCtorEq, eq_self, and_true, true_and, and_false, false_and, and_self, not_true_eq_false, not_false_eq_true, decide_true, decide_false, ↓reduceIte, Int.reduceEq, Int.reduceNe, Int.reduceLT, Int.reduceLE, Int.reduceAdd, Int.reduceSub, Int.reduceMul, Int.reduceNeg, Nat.reduceAdd, Nat.reduceEqDiff, Nat.reduceBEq, ↓z_x_eq, z_g_t, z_bI_s, z_bL_s, z_bR_s, z_bV_s, Int.cast_ofNat_Int, beq_self_eq_true, Bool.and_true, Bool.true_and, Bool.and_self, Bool.or_true, Bool.true_or, Bool.false_and, Bool.and_false, Bool.false_or, Bool.or_false, Bool.not_false, Bool.not_true, if_true, if_false, ite_true, ite_false, z_up_eq, z_up_app, z_ro_eq, c, e2, a1, n1, ex, q_G_k, k2', rf1]
    · rw [if_neg k1] at ex ⊢
      refine ⟨fun z => (by cases z), fun _ => ⟨A, ?_, by show (0 : Int) ≤ 1; decide, by show (1 : Int) ≤ 6; decide, hj⟩⟩
      rw [e_Re_readNumbers_11]
      simp -implicitDefEqProofs (disch := first | assumption | omega | rfl | (simp only [z_up_eq, z_up_app, ↓reduceIte, Nat.reduceEqDiff]; omega)) only [z_lit0, z_lit1, z_lit2, z_litl, iI_add, iI_sub, iI_mul, iI_neg, iI_and, iI_or, iI_xor, iI_shl, iI_shr, iI_ushr, iI_div, iI_b, iI_c, iI_i2l, lI_l2i, lI_add, lI_sub, lI_mul, lI_neg, lI_div, lI_or, lI_and, lI_shl, lI_shr, nI_iI, lg_lt0, lg_gt0, lg_eq0, i_ne0', l_ne0', iI_lt, iI_le, iI_eq, lI_lt, lI_le, lI_eq, zb_0, zb_fit, zb_fit0, zb_fit1, i_one_zero, i_w_in, z_tb0, z_tb1, z_tb2, z_tb3, z_tb4, z_tb5, z_tb6, z_tb7, z_tb8, z_tbl, z_tu0, z_tu1, z_tu2, z_i_62, z_i_63, z_i_86, z_i_88, z_l_Y, z_ui_62, z_ui_63, z_ui_86, z_ui_88, z_ul_Y, z_sz_Y, z_sw_Y, iI_nat, z_ix_t, z_at, Int.add_zero, Int.sub_zero, Int.zero_add, Int.mul_zero, ne_eq, Bool.false_eq_true, Bool.true_eq_false, reduceCtorEq, eq_self, and_true, true_and, and_false, false_and, and_self, not_true_eq_false, not_false_eq_true, decide_true, decide_false, ↓reduceIte, Int.reduceEq, Int.reduceNe, Int.reduceLT, Int.reduceLE, Int.reduceAdd, Int.reduceSub, Int.reduceMul, Int.reduceNeg, Nat.reduceAdd, Nat.reduceEqDiff, Nat.reduceBEq, ↓z_x_eq, z_g_t, z_bI_s, z_bL_s, z_bR_s, z_bV_s, Int.cast_ofNat_Int, beq_self_eq_true, Bool.and_true, Bool.true_and, Bool.and_self, Bool.or_true, Bool.true_or, Bool.false_and, Bool.and_false, Bool.false_or, Bool.or_false, Bool.not_false, Bool.not_true, if_true, if_false, ite_true, ite_false, z_up_eq, z_up_app, z_ro_eq, c, e2, a1, n1, ex]
end
def f_atb (S : Nat → Int) (e : Nat) : Nat → List (Int × Int × Int) → Bool
  | x, [] => decide (x = e ∨ (x < e ∧ S x = 1))
  | x, f :: l => decide (x + 3 ≤ e ∧ S x = f.1 ∧ S (x + 1) = f.2.1 ∧ S (x + 2) = f.2.2 ∧ (2 ≤ f.1 ∧ f.1 ≤ 44) ∧ (0 ≤ f.2.1 ∧ f.2.1 ≤ f.2.2 ∧ f.2.2 ≤ 9999)) && f_atb S e (x + 3) l
theorem f_at_b {S : Int → Int} {S' : Nat → Int} {e : Nat} (he : e ≤ 90) (hS : ∀ n : Nat, n < 90 → S n = S' n) : ∀ (l : List (Int × Int × Int)) (x : Nat), x + 3 * l.length ≤ e → f_atb S' e x l = true → f_at S e x l
  | [], x, _, h => by
    have h' := of_decide_eq_true h
    rcases h' with h' | ⟨h1, h2⟩
    · left; omega
    · right; exact ⟨by omega, by rw [hS x (by omega)]; exact h2⟩
  | f :: l, x, hl, h => by
    have hl' : x + 3 * (l.length + 1) ≤ e := hl
    have h' : (decide (x + 3 ≤ e ∧ S' x = f.1 ∧ S' (x + 1) = f.2.1 ∧ S' (x + 2) = f.2.2 ∧ (2 ≤ f.1 ∧ f.1 ≤ 44) ∧ (0 ≤ f.2.1 ∧ f.2.1 ≤ f.2.2 ∧ f.2.2 ≤ 9999)) && f_atb S' e (x + 3) l) = true := h
    rw [Bool.and_eq_true, decide_eq_true_eq] at h'
    obtain ⟨⟨b1, b2, b3, b4, b5⟩, h2⟩ := h'
    have i1 : ((x + 1 : Nat) : Int) = (x : Int) + 1 := by omega
    have i2 : ((x + 2 : Nat) : Int) = (x : Int) + 2 := by omega
    have i3 : ((x + 3 : Nat) : Int) = (x : Int) + 3 := by omega
    have ih := f_at_b he hS l (x + 3) (by omega) h2
    rw [i3] at ih
    exact ⟨⟨by omega, by rw [hS x (by omega)]; exact b2, by rw [← i1, hS _ (by omega)]; exact b3, by rw [← i2, hS _ (by omega)]; exact b4, b5⟩, ih⟩
theorem f_at_all : ∀ q : Nat, q < 10 → f_atb (fun n => y_fm.getD n 0) (9 * q + 9) (9 * q) (j_fm ((q + 3 : Nat) : Int)) = true ∧ 9 * q + 3 * (j_fm ((q + 3 : Nat) : Int)).length ≤ 9 * q + 9 ∧ (1 ≤ (j_fm ((q + 3 : Nat) : Int)).length ∧ (j_fm ((q + 3 : Nat) : Int)).length ≤ 3) := by decide +kernel
theorem f_at_fm {G : ZG} (hS : ∀ j : Int, 0 ≤ j → j < 90 → G 2 j = y_fm.getD j.toNat 0) {q : Int} (hq : 3 ≤ q ∧ q ≤ 12) : f_at (G 2) (9 * (q - 3) + 9) (9 * (q - 3)) (j_fm q) ∧ 1 ≤ (j_fm q).length ∧ (j_fm q).length ≤ 3 := by
  have a := f_at_all (q - 3).toNat (by omega)
  have e : (((q - 3).toNat + 3 : Nat) : Int) = q := by omega
  rw [e] at a
  have b := f_at_b (S := G 2) (S' := fun n => y_fm.getD n 0) (e := 9 * (q - 3).toNat + 9) (by omega) (fun n h => by
    have := hS n (by omega) (by omega)
    rwa [show ((n : Int)).toNat = n by omega] at this) (j_fm q) (9 * (q - 3).toNat) a.2.1 a.1
  rw [show ((9 * (q - 3).toNat + 9 : Nat) : Int) = 9 * (q - 3) + 9 by omega, show ((9 * (q - 3).toNat : Nat) : Int) = 9 * (q - 3) by omega] at b
  exact ⟨b, a.2.2⟩

/-! THE PURE PART, 84: the class's parser, small steps -/
def q_R (R : Int → Int) (j k v n : Int) : Int → Int := fun i => if i = 2 then j else if i = 3 then k else if i = 4 then v else if i = 6 then n else R i
theorem q_R_2 (R : Int → Int) (j k v n : Int) : q_R R j k v n 2 = j := rfl
theorem q_R_3 (R : Int → Int) (j k v n : Int) : q_R R j k v n 3 = k := rfl
theorem q_R_4 (R : Int → Int) (j k v n : Int) : q_R R j k v n 4 = v := rfl
theorem q_R_6 (R : Int → Int) (j k v n : Int) : q_R R j k v n 6 = n := rfl
theorem q_R_o (R : Int → Int) (j k v n : Int) {i : Int} (h : i ≠ 2 ∧ i ≠ 3 ∧ i ≠ 4 ∧ i ≠ 6) : q_R R j k v n i = R i := by
  unfold q_R
  rw [if_neg h.1, if_neg h.2.1, if_neg h.2.2.1, if_neg h.2.2.2]
theorem q_R_go (R : Int → Int) (j k v n j' k' v' : Int) : z_ro (z_ro (z_ro (q_R R j k v n) 2 j') 3 k') 4 v' = q_R R j' k' v' n := by
  funext i
  unfold z_ro q_R
  by_cases a2 : i = 2
  · subst a2; rfl
  by_cases a3 : i = 3
  · subst a3; rfl
  by_cases a4 : i = 4
  · subst a4; rfl
  simp only [a2, a3, a4, if_false]
theorem q_R_em (R : Int → Int) (j k v n n' : Int) : z_ro (q_R R j k v n) 6 n' = q_R R j k v n' := by
  funext i
  unfold z_ro q_R
  by_cases a6 : i = 6
  · subst a6; rfl
  simp only [a6, if_false]
/-- code written over a row -/
def q_cd (A : Int → Int) (C : List (Int × Int)) : Int → Int := fun i => if 0 ≤ i ∧ i < C.length then t_enc (C.getD i.toNat (0, 0)).1 (C.getD i.toNat (0, 0)).2 else A i
theorem q_cd_app (A : Int → Int) (C : List (Int × Int)) (o v : Int) : z_ro (q_cd A C) C.length (t_enc o v) = q_cd A (C ++ [(o, v)]) := by
  funext i
  unfold z_ro q_cd
  rw [List.length_append, List.length_singleton]
  by_cases a : i = C.length
  · rw [if_pos a, if_pos (by omega)]
    have e : i.toNat = C.length := by omega
    rw [e]
    simp
  · rw [if_neg a]
    by_cases b : 0 ≤ i ∧ i < C.length
    · rw [if_pos b, if_pos (by omega)]
      have e : (C ++ [(o, v)]).getD i.toNat (0, 0) = C.getD i.toNat (0, 0) := by
        rw [List.getD_eq_getElem?_getD, List.getD_eq_getElem?_getD, List.getElem?_append_left (by omega)]
      rw [e]
    · rw [if_neg b, if_neg (by omega)]
theorem q_cd_nil (A : Int → Int) : q_cd A [] = A := by
  funext i
  unfold q_cd
  rw [if_neg (fun h => by have : i < 0 := h.2; omega)]
/-- at the j-th token, with the code C -/
def q_G (G : ZG) (K V : Nat → Int) (j : Nat) (C : List (Int × Int)) : ZG := z_up (z_up G 56 (q_R (G 56) j (K j) (V j) C.length)) 59 (q_cd (G 59) C)
def q_F (G : ZG) (n x : Int) : ZG := z_up G 56 (z_ro (z_ro (G 56) 14 n) 15 x)
theorem q_G_56 (G : ZG) (K V : Nat → Int) (j : Nat) (C : List (Int × Int)) : q_G G K V j C 56 = q_R (G 56) j (K j) (V j) C.length := by
  unfold q_G; rw [z_up_ne _ _ (by omega), z_up_eq]
theorem q_G_59 (G : ZG) (K V : Nat → Int) (j : Nat) (C : List (Int × Int)) : q_G G K V j C 59 = q_cd (G 59) C := z_up_eq _ _ _
theorem q_G_o (G : ZG) (K V : Nat → Int) (j : Nat) (C : List (Int × Int)) {r : Nat} (h : r ≠ 56 ∧ r ≠ 59) : q_G G K V j C r = G r := by
  unfold q_G; rw [z_up_ne _ _ h.2, z_up_ne _ _ h.1]
theorem q_G_at (G : ZG) (K V : Nat → Int) (j : Nat) (C : List (Int × Int)) : q_G G K V j C 56 2 = j := by rw [q_G_56, q_R_2]
theorem q_G_k (G : ZG) (K V : Nat → Int) (j : Nat) (C : List (Int × Int)) : q_G G K V j C 56 3 = K j := by rw [q_G_56, q_R_3]
theorem q_G_v (G : ZG) (K V : Nat → Int) (j : Nat) (C : List (Int × Int)) : q_G G K V j C 56 4 = V j := by rw [q_G_56, q_R_4]
theorem q_G_n (G : ZG) (K V : Nat → Int) (j : Nat) (C : List (Int × Int)) : q_G G K V j C 56 6 = C.length := by rw [q_G_56, q_R_6]
theorem q_G_l (G : ZG) (K V : Nat → Int) (j : Nat) (C : List (Int × Int)) : q_G G K V j C 56 7 = G 56 7 := by rw [q_G_56, q_R_o _ _ _ _ _ (by omega)]
theorem q_G_c (G : ZG) (K V : Nat → Int) (j : Nat) (C : List (Int × Int)) : q_G G K V j C 56 12 = G 56 12 := by rw [q_G_56, q_R_o _ _ _ _ _ (by omega)]
theorem q_G_up (G : ZG) (K V : Nat → Int) (j : Nat) (C : List (Int × Int)) (R : Int → Int) : z_up (q_G G K V j C) 56 R = z_up (z_up G 56 R) 59 (q_cd (G 59) C) := by
  unfold q_G; rw [z_up_cm _ _ _ (by omega), z_up_up]
/-- what the class has of the tokens, by their numbers -/
def q_tk (G : ZG) (K V X : Nat → Int) (N : Nat) : Prop := N ≤ 300 ∧ (∀ j, N ≤ j → K j = 0) ∧ (∀ j : Nat, j ≤ N → i_and (G 57 j) 63 = K j ∧ i_shr (G 57 j) 6 = V j ∧ G 58 j = X j) ∧ ∀ j, (0 ≤ K j ∧ K j ≤ 44) ∧ 0 ≤ V j ∧ V j ≤ 10000
def j_nm (q k : Int) : Bool := decide (k = 0 ∨ (q = 2 ∧ 7 ≤ k) ∨ (q ≠ 2 ∧ k < 6) ∨ (q = 1 ∧ k = 6))
theorem p_goTo {E : Nat} (hE : 1 ≤ E) (T : ZT) (G : ZG) (s : ZG × ZG) {j : Int} (hj : 0 ≤ j ∧ j < 301) : z_call E 55 [vr 56, vi (iI j)] (z_Y T G s) = some (vi (iI 0), z_Y T (z_up G 56 (z_ro (z_ro (z_ro (G 56) 2 j) 3 (i_and (G 57 j) 63)) 4 (i_shr (G 57 j) 6))) s) := by
  obtain ⟨d, rfl⟩ : ∃ d, E = d + 1 := ⟨E - 1, by omega⟩
  have c0 : (j < 0) = False := eq_false (by omega)
  have c1 : (j < 301) = True := eq_true hj.2
  rw [e_Re_goTo]
  simp -implicitDefEqProofs (disch := first | assumption | omega | rfl | (simp only [z_up_eq, z_up_app, ↓reduceIte, Nat.reduceEqDiff]; omega)) only [z_lit0, z_lit1, z_lit2, z_litl, iI_add, iI_sub, iI_mul, iI_neg, iI_and, iI_or, iI_xor, iI_shl, iI_shr, iI_ushr, iI_div, iI_b, iI_c, iI_i2l, lI_l2i, lI_add, lI_sub, lI_mul, lI_neg, lI_div, lI_or, lI_and, lI_shl, lI_shr, nI_iI, lg_lt0, lg_gt0, lg_eq0, i_ne0', l_ne0', iI_lt, iI_le, iI_eq, lI_lt, lI_le, lI_eq, zb_0, zb_fit, zb_fit0, zb_fit1, i_one_zero, i_w_in, z_tb0, z_tb1, z_tb2, z_tb3, z_tb4, z_tb5, z_tb6, z_tb7, z_tb8, z_tbl, z_tu0, z_tu1, z_tu2, z_i_62, z_i_63, z_i_86, z_i_88, z_l_Y, z_ui_62, z_ui_63, z_ui_86, z_ui_88, z_ul_Y, z_sz_Y, z_sw_Y, iI_nat, z_ix_t, z_at, Int.add_zero, Int.sub_zero, Int.zero_add, Int.mul_zero, ne_eq, Bool.false_eq_true, Bool.true_eq_false, reduceCtorEq, eq_self, and_true, true_and, and_false, false_and, and_self, not_true_eq_false, not_false_eq_true, decide_true, decide_false, ↓reduceIte, Int.reduceEq, Int.reduceNe, Int.reduceLT, Int.reduceLE, Int.reduceAdd, Int.reduceSub, Int.reduceMul, Int.reduceNeg, Nat.reduceAdd, Nat.reduceEqDiff, Nat.reduceBEq, ↓z_x_eq, z_g_t, z_bI_s, z_bL_s, z_bR_s, z_bV_s, Int.cast_ofNat_Int, beq_self_eq_true, Bool.and_true, Bool.true_and, Bool.and_self, Bool.or_true, Bool.true_or, Bool.false_and, Bool.and_false, Bool.false_or, Bool.or_false, Bool.not_false, Bool.not_true, if_true, if_false, ite_true, ite_false, z_up_eq, z_up_app, z_ro_eq, c0, c1, z_up_up]
section
variable {T : ZT} {G : ZG} {s : ZG × ZG} {K V X : Nat → Int} {N : Nat}
theorem q_lt (hT : q_tk G K V X N) {j : Nat} (h : K j ≠ 0) : j < N := by
  by_cases z : j < N
  · exact z
  · exact absurd (hT.2.1 j (by omega)) h
theorem p_rnext {E : Nat} (hE : 2 ≤ E) (hT : q_tk G K V X N) {j : Nat} {C : List (Int × Int)} (hj : K j ≠ 0) : z_call E 59 [vr 56] (z_Y T (q_G G K V j C) s) = some (vi (iI 1), z_Y T (q_G G K V (j + 1) C) s) := by
  obtain ⟨d, rfl⟩ : ∃ d, E = d + 1 := ⟨E - 1, by omega⟩
  have jl := q_lt hT hj
  have hN := hT.1
  have e := p_goTo (E := d) (by omega) T (q_G G K V j C) s (j := (j : Int) + 1) (by omega)
  have t := hT.2.2.1 (j + 1) (by omega)
  rw [show ((j + 1 : Nat) : Int) = (j : Int) + 1 by omega] at t
  rw [q_G_up, q_G_56, q_G_o _ _ _ _ _ (show 57 ≠ 56 ∧ 57 ≠ 59 by omega), t.1, t.2.1, q_R_go] at e
  have e2 : z_up (z_up G 56 (q_R (G 56) (↑j + 1) (K (j + 1)) (V (j + 1)) ↑C.length)) 59 (q_cd (G 59) C) = q_G G K V (j + 1) C := by
    unfold q_G
    rw [show ((j + 1 : Nat) : Int) = (j : Int) + 1 by omega]
  rw [e2] at e
  rw [e_Re_next]
  simp -implicitDefEqProofs (disch := first | assumption | omega | rfl | (simp only [z_up_eq, z_up_app, ↓reduceIte, Nat.reduceEqDiff]; omega)) only [z_lit0, z_lit1, z_lit2, z_litl, iI_add, iI_sub, iI_mul, iI_neg, iI_and, iI_or, iI_xor, iI_shl, iI_shr, iI_ushr, iI_div, iI_b, iI_c, iI_i2l, lI_l2i, lI_add, lI_sub, lI_mul, lI_neg, lI_div, lI_or, lI_and, lI_shl, lI_shr, nI_iI, lg_lt0, lg_gt0, lg_eq0, i_ne0', l_ne0', iI_lt, iI_le, iI_eq, lI_lt, lI_le, lI_eq, zb_0, zb_fit, zb_fit0, zb_fit1, i_one_zero, i_w_in, z_tb0, z_tb1, z_tb2, z_tb3, z_tb4, z_tb5, z_tb6, z_tb7, z_tb8, z_tbl, z_tu0, z_tu1, z_tu2, z_i_62, z_i_63, z_i_86, z_i_88, z_l_Y, z_ui_62, z_ui_63, z_ui_86, z_ui_88, z_ul_Y, z_sz_Y, z_sw_Y, iI_nat, z_ix_t, z_at, Int.add_zero, Int.sub_zero, Int.zero_add, Int.mul_zero, ne_eq, Bool.false_eq_true, Bool.true_eq_false, reduceCtorEq, eq_self, and_true, true_and, and_false, false_and, and_self, not_true_eq_false, not_false_eq_true, decide_true, decide_false, ↓reduceIte, Int.reduceEq, Int.reduceNe, Int.reduceLT, Int.reduceLE, Int.reduceAdd, Int.reduceSub, Int.reduceMul, Int.reduceNeg, Nat.reduceAdd, Nat.reduceEqDiff, Nat.reduceBEq, ↓z_x_eq, z_g_t, z_bI_s, z_bL_s, z_bR_s, z_bV_s, Int.cast_ofNat_Int, beq_self_eq_true, Bool.and_true, Bool.true_and, Bool.and_self, Bool.or_true, Bool.true_or, Bool.false_and, Bool.and_false, Bool.false_or, Bool.or_false, Bool.not_false, Bool.not_true, if_true, if_false, ite_true, ite_false, z_up_eq, z_up_app, z_ro_eq, q_G_at, e]
theorem p_rref {E : Nat} (hE : 1 ≤ E) (hT : q_tk G K V X N) {j : Nat} {C : List (Int × Int)} (hj : j ≤ N) (n : Int) : z_call E 57 [vr 56, vi (iI n)] (z_Y T (q_G G K V j C) s) = some (vi (iI 0), z_Y T (q_F (q_G G K V j C) n (X j)) s) := by
  obtain ⟨d, rfl⟩ : ∃ d, E = d + 1 := ⟨E - 1, by omega⟩
  have hN := hT.1
  have t := (hT.2.2.1 j hj).2.2
  have o1 : z_ro (q_G G K V j C 56) 14 n 2 = j := by rw [z_ro_ne _ _ (by omega), q_G_at]
  have o2 : q_G G K V j C 58 = G 58 := q_G_o _ _ _ _ _ (by omega)
  unfold q_F
  rw [e_Re_refuse]
  simp -implicitDefEqProofs (disch := first | assumption | omega | rfl | (simp only [z_up_eq, z_up_app, ↓reduceIte, Nat.reduceEqDiff]; omega)) only [z_lit0, z_lit1, z_lit2, z_litl, iI_add, iI_sub, iI_mul, iI_neg, iI_and, iI_or, iI_xor, iI_shl, iI_shr, iI_ushr, iI_div, iI_b, iI_c, iI_i2l, lI_l2i, lI_add, lI_sub, lI_mul, lI_neg, lI_div, lI_or, lI_and, lI_shl, lI_shr, nI_iI, lg_lt0, lg_gt0, lg_eq0, i_ne0', l_ne0', iI_lt, iI_le, iI_eq, lI_lt, lI_le, lI_eq, zb_0, zb_fit, zb_fit0, zb_fit1, i_one_zero, i_w_in, z_tb0, z_tb1, z_tb2, z_tb3, z_tb4, z_tb5, z_tb6, z_tb7, z_tb8, z_tbl, z_tu0, z_tu1, z_tu2, z_i_62, z_i_63, z_i_86, z_i_88, z_l_Y, z_ui_62, z_ui_63, z_ui_86, z_ui_88, z_ul_Y, z_sz_Y, z_sw_Y, iI_nat, z_ix_t, z_at, Int.add_zero, Int.sub_zero, Int.zero_add, Int.mul_zero, ne_eq, Bool.false_eq_true, Bool.true_eq_false, reduceCtorEq, eq_self, and_true, true_and, and_false, false_and, and_self, not_true_eq_false, not_false_eq_true, decide_true, decide_false, ↓reduceIte, Int.reduceEq, Int.reduceNe, Int.reduceLT, Int.reduceLE, Int.reduceAdd, Int.reduceSub, Int.reduceMul, Int.reduceNeg, Nat.reduceAdd, Nat.reduceEqDiff, Nat.reduceBEq, ↓z_x_eq, z_g_t, z_bI_s, z_bL_s, z_bR_s, z_bV_s, Int.cast_ofNat_Int, beq_self_eq_true, Bool.and_true, Bool.true_and, Bool.and_self, Bool.or_true, Bool.true_or, Bool.false_and, Bool.and_false, Bool.false_or, Bool.or_false, Bool.not_false, Bool.not_true, if_true, if_false, ite_true, ite_false, z_up_eq, z_up_app, z_ro_eq, o1, o2, t, z_up_up]
theorem p_remit {E : Nat} (hE : 1 ≤ E) {j : Nat} {C : List (Int × Int)} (hC : C.length < 300) (o v : Int) : z_call E 62 [vr 56, vi (iI (t_enc o v))] (z_Y T (q_G G K V j C) s) = some (vi (iI 1), z_Y T (q_G G K V j (C ++ [(o, v)])) s) := by
  obtain ⟨d, rfl⟩ : ∃ d, E = d + 1 := ⟨E - 1, by omega⟩
  have c1 : ((C.length : Int) < 300) = True := eq_true (by omega)
  have e2 : z_up (z_up (q_G G K V j C) 59 (z_ro (q_G G K V j C 59) C.length (t_enc o v))) 56 (z_ro (q_G G K V j C 56) 6 ((C.length : Int) + 1)) = q_G G K V j (C ++ [(o, v)]) := by
    rw [q_G_59, q_cd_app, q_G_56, q_R_em]
    unfold q_G
    rw [z_up_up, z_up_cm _ _ _ (by omega), z_up_up, List.length_append, List.length_singleton, show ((C.length + 1 : Nat) : Int) = (C.length : Int) + 1 by omega]
  rw [e_Re_emit]
  rw [← e2]
  simp -implicitDefEqProofs (disch := first | assumption | omega | rfl | (simp only [z_up_eq, z_up_app, ↓reduceIte, Nat.reduceEqDiff]; omega)) only [z_lit0, z_lit1, z_lit2, z_litl, iI_add, iI_sub, iI_mul, iI_neg, iI_and, iI_or, iI_xor, iI_shl, iI_shr, iI_ushr, iI_div, iI_b, iI_c, iI_i2l, lI_l2i, lI_add, lI_sub, lI_mul, lI_neg, lI_div, lI_or, lI_and, lI_shl, lI_shr, nI_iI, lg_lt0, lg_gt0, lg_eq0, i_ne0', l_ne0', iI_lt, iI_le, iI_eq, lI_lt, lI_le, lI_eq, zb_0, zb_fit, zb_fit0, zb_fit1, i_one_zero, i_w_in, z_tb0, z_tb1, z_tb2, z_tb3, z_tb4, z_tb5, z_tb6, z_tb7, z_tb8, z_tbl, z_tu0, z_tu1, z_tu2, z_i_62, z_i_63, z_i_86, z_i_88, z_l_Y, z_ui_62, z_ui_63, z_ui_86, z_ui_88, z_ul_Y, z_sz_Y, z_sw_Y, iI_nat, z_ix_t, z_at, Int.add_zero, Int.sub_zero, Int.zero_add, Int.mul_zero, ne_eq, Bool.false_eq_true, Bool.true_eq_false, reduceCtorEq, eq_self, and_true, true_and, and_false, false_and, and_self, not_true_eq_false, not_false_eq_true, decide_true, decide_false, ↓reduceIte, Int.reduceEq, Int.reduceNe, Int.reduceLT, Int.reduceLE, Int.reduceAdd, Int.reduceSub, Int.reduceMul, Int.reduceNeg, Nat.reduceAdd, Nat.reduceEqDiff, Nat.reduceBEq, ↓z_x_eq, z_g_t, z_bI_s, z_bL_s, z_bR_s, z_bV_s, Int.cast_ofNat_Int, beq_self_eq_true, Bool.and_true, Bool.true_and, Bool.and_self, Bool.or_true, Bool.true_or, Bool.false_and, Bool.and_false, Bool.false_or, Bool.or_false, Bool.not_false, Bool.not_true, if_true, if_false, ite_true, ite_false, z_up_eq, z_up_app, z_ro_eq, q_G_n, c1]
theorem p_rexp {E : Nat} (hE : 3 ≤ E) (hT : q_tk G K V X N) {j : Nat} {C : List (Int × Int)} (hj : j ≤ N) {k : Int} (hk : 1 ≤ k ∧ k ≤ 44) : z_call E 60 [vr 56, vi (iI k)] (z_Y T (q_G G K V j C) s) = if K j = k then some (vi (iI 1), z_Y T (q_G G K V (j + 1) C) s) else some (vi (iI 0), z_Y T (q_F (q_G G K V j C) 1 (X j)) s) := by
  obtain ⟨d, rfl⟩ : ∃ d, E = d + 1 := ⟨E - 1, by omega⟩
  have b := hT.2.2.2 j
  have rf := p_rref (T := T) (s := s) (C := C) (E := d) (by omega) hT hj 1
  rw [e_Re_expect]
  by_cases c : K j = k
  · have c' : (K j = k) = True := eq_true c
    have nx := p_rnext (T := T) (s := s) (C := C) (E := d) (by omega) hT (show K j ≠ 0 by omega)
    rw [if_pos c]
    simp -implicitDefEqProofs (disch := first | assumption | omega | rfl | (simp only [z_up_eq, z_up_app, ↓reduceIte, Nat.reduceEqDiff]; omega)) only [z_lit0, z_lit1, z_lit2, z_litl, iI_add, iI_sub, iI_mul, iI_neg, iI_and, iI_or, iI_xor, iI_shl, iI_shr, iI_ushr, iI_div, iI_b, iI_c, iI_i2l, lI_l2i, lI_add, lI_sub, lI_mul, lI_neg, lI_div, lI_or, lI_and, lI_shl, lI_shr, nI_iI, lg_lt0, lg_gt0, lg_eq0, i_ne0', l_ne0', iI_lt, iI_le, iI_eq, lI_lt, lI_le, lI_eq, zb_0, zb_fit, zb_fit0, zb_fit1, i_one_zero, i_w_in, z_tb0, z_tb1, z_tb2, z_tb3, z_tb4, z_tb5, z_tb6, z_tb7, z_tb8, z_tbl, z_tu0, z_tu1, z_tu2, z_i_62, z_i_63, z_i_86, z_i_88, z_l_Y, z_ui_62, z_ui_63, z_ui_86, z_ui_88, z_ul_Y, z_sz_Y, z_sw_Y, iI_nat, z_ix_t, z_at, Int.add_zero, Int.sub_zero, Int.zero_add, Int.mul_zero, ne_eq, Bool.false_eq_true, Bool.true_eq_false, reduceCtorEq, eq_self, and_true, true_and, and_false, false_and, and_self, not_true_eq_false, not_false_eq_true, decide_true, decide_false, ↓reduceIte, Int.reduceEq, Int.reduceNe, Int.reduceLT, Int.reduceLE, Int.reduceAdd, Int.reduceSub, Int.reduceMul, Int.reduceNeg, Nat.reduceAdd, Nat.reduceEqDiff, Nat.reduceBEq, ↓z_x_eq, z_g_t, z_bI_s, z_bL_s, z_bR_s, z_bV_s, Int.cast_ofNat_Int, beq_self_eq_true, Bool.and_true, Bool.true_and, Bool.and_self, Bool.or_true, Bool.true_or, Bool.false_and, Bool.and_false, Bool.false_or, Bool.or_false, Bool.not_false, Bool.not_true, if_true, if_false, ite_true, ite_false, z_up_eq, z_up_app, z_ro_eq, q_G_k, c', nx]
  · have c' : (K j = k) = False := eq_false c
    rw [if_neg c]
    simp -implicitDefEqProofs (disch := first | assumption | omega | rfl | (simp only [z_up_eq, z_up_app, ↓reduceIte, Nat.reduceEqDiff]; omega)) only [z_lit0, z_lit1, z_lit2, z_litl, iI_add, iI_sub, iI_mul, iI_neg, iI_and, iI_or, iI_xor, iI_shl, iI_shr, iI_ushr, iI_div, iI_b, iI_c, iI_i2l, lI_l2i, lI_add, lI_sub, lI_mul, lI_neg, lI_div, lI_or, lI_and, lI_shl, lI_shr, nI_iI, lg_lt0, lg_gt0, lg_eq0, i_ne0', l_ne0', iI_lt, iI_le, iI_eq, lI_lt, lI_le, lI_eq, zb_0, zb_fit, zb_fit0, zb_fit1, i_one_zero, i_w_in, z_tb0, z_tb1, z_tb2, z_tb3, z_tb4, z_tb5, z_tb6, z_tb7, z_tb8, z_tbl, z_tu0, z_tu1, z_tu2, z_i_62, z_i_63, z_i_86, z_i_88, z_l_Y, z_ui_62, z_ui_63, z_ui_86, z_ui_88, z_ul_Y, z_sz_Y, z_sw_Y, iI_nat, z_ix_t, z_at, Int.add_zero, Int.sub_zero, Int.zero_add, Int.mul_zero, ne_eq, Bool.false_eq_true, Bool.true_eq_false, reduceCtorEq, eq_self, and_true, true_and, and_false, false_and, and_self, not_true_eq_false, not_false_eq_true, decide_true, decide_false, ↓reduceIte, Int.reduceEq, Int.reduceNe, Int.reduceLT, Int.reduceLE, Int.reduceAdd, Int.reduceSub, Int.reduceMul, Int.reduceNeg, Nat.reduceAdd, Nat.reduceEqDiff, Nat.reduceBEq, ↓z_x_eq, z_g_t, z_bI_s, z_bL_s, z_bR_s, z_bV_s, Int.cast_ofNat_Int, beq_self_eq_true, Bool.and_true, Bool.true_and, Bool.and_self, Bool.or_true, Bool.true_or, Bool.false_and, Bool.and_false, Bool.false_or, Bool.or_false, Bool.not_false, Bool.not_true, if_true, if_false, ite_true, ite_false, z_up_eq, z_up_app, z_ro_eq, q_G_k, c', rf]
theorem p_rname {E : Nat} (hE : 2 ≤ E) {q k : Int} (σ : ZG) (hl : σ 56 7 = 28 + q) (hq : 0 ≤ q ∧ q ≤ 2) (hk : 18 ≤ k ∧ k ≤ 27) : z_call E 63 [vr 56, vi (iI k)] (z_Y T σ s) = some (vi (iI (zb (j_nm q (k - 18)))), z_Y T σ s) := by
  obtain ⟨d, rfl⟩ : ∃ d, E = d + 2 := ⟨E - 2, by omega⟩
  rw [e_Re_isNameOfLaw]
  unfold j_nm
  by_cases c1 : k = 18
  · have c1' : (k = 18) = True := eq_true c1
    simp -implicitDefEqProofs (disch := first | assumption | omega | rfl | (simp only [z_up_eq, z_up_app, ↓reduceIte, Nat.reduceEqDiff]; omega)) only [z_lit0, z_lit1, z_lit2, z_litl, iI_add, iI_sub, iI_mul, iI_neg, iI_and, iI_or, iI_xor, iI_shl, iI_shr, iI_ushr, iI_div, iI_b, iI_c, iI_i2l, lI_l2i, lI_add, lI_sub, lI_mul, lI_neg, lI_div, lI_or, lI_and, lI_shl, lI_shr, nI_iI, lg_lt0, lg_gt0, lg_eq0, i_ne0', l_ne0', iI_lt, iI_le, iI_eq, lI_lt, lI_le, lI_eq, zb_0, zb_fit, zb_fit0, zb_fit1, i_one_zero, i_w_in, z_tb0, z_tb1, z_tb2, z_tb3, z_tb4, z_tb5, z_tb6, z_tb7, z_tb8, z_tbl, z_tu0, z_tu1, z_tu2, z_i_62, z_i_63, z_i_86, z_i_88, z_l_Y, z_ui_62, z_ui_63, z_ui_86, z_ui_88, z_ul_Y, z_sz_Y, z_sw_Y, iI_nat, z_ix_t, z_at, Int.add_zero, Int.sub_zero, Int.zero_add, Int.mul_zero, ne_eq, Bool.false_eq_true, Bool.true_eq_false, reduceCtorEq, eq_self, and_true, true_and, and_false, false_and, and_self, not_true_eq_false, not_false_eq_true, decide_true, decide_false, ↓reduceIte, Int.reduceEq, Int.reduceNe, Int.reduceLT, Int.reduceLE, Int.reduceAdd, Int.reduceSub, Int.reduceMul, Int.reduceNeg, Nat.reduceAdd, Nat.reduceEqDiff, Nat.reduceBEq, ↓z_x_eq, z_g_t, z_bI_s, z_bL_s, z_bR_s, z_bV_s, Int.cast_ofNat_Int, beq_self_eq_true, Bool.and_true, Bool.true_and, Bool.and_self, Bool.or_true, Bool.true_or, Bool.false_and, Bool.and_false, Bool.false_or, Bool.or_false, Bool.not_false, Bool.not_true, if_true, if_false, ite_true, ite_false, z_up_eq, z_up_app, z_ro_eq, c1']
    rw [decide_eq_true (by omega)]; rfl
  · have c1' : (k = 18) = False := eq_false c1
    by_cases c2 : q = 2
    · have c2' : (28 + q = 30) = True := eq_true (by omega)
      have w := p_within d (a := k) (b := 25) (c := 27) (z_Y T σ s) ⟨⟨by omega, by omega⟩, ⟨by omega, by omega⟩, ⟨by omega, by omega⟩⟩
      simp -implicitDefEqProofs (disch := first | assumption | omega | rfl | (simp only [z_up_eq, z_up_app, ↓reduceIte, Nat.reduceEqDiff]; omega)) only [z_lit0, z_lit1, z_lit2, z_litl, iI_add, iI_sub, iI_mul, iI_neg, iI_and, iI_or, iI_xor, iI_shl, iI_shr, iI_ushr, iI_div, iI_b, iI_c, iI_i2l, lI_l2i, lI_add, lI_sub, lI_mul, lI_neg, lI_div, lI_or, lI_and, lI_shl, lI_shr, nI_iI, lg_lt0, lg_gt0, lg_eq0, i_ne0', l_ne0', iI_lt, iI_le, iI_eq, lI_lt, lI_le, lI_eq, zb_0, zb_fit, zb_fit0, zb_fit1, i_one_zero, i_w_in, z_tb0, z_tb1, z_tb2, z_tb3, z_tb4, z_tb5, z_tb6, z_tb7, z_tb8, z_tbl, z_tu0, z_tu1, z_tu2, z_i_62, z_i_63, z_i_86, z_i_88, z_l_Y, z_ui_62, z_ui_63, z_ui_86, z_ui_88, z_ul_Y, z_sz_Y, z_sw_Y, iI_nat, z_ix_t, z_at, Int.add_zero, Int.sub_zero, Int.zero_add, Int.mul_zero, ne_eq, Bool.false_eq_true, Bool.true_eq_false, reduceCtorEq, eq_self, and_true, true_and, and_false, false_and, and_self, not_true_eq_false, not_false_eq_true, decide_true, decide_false, ↓reduceIte, Int.reduceEq, Int.reduceNe, Int.reduceLT, Int.reduceLE, Int.reduceAdd, Int.reduceSub, Int.reduceMul, Int.reduceNeg, Nat.reduceAdd, Nat.reduceEqDiff, Nat.reduceBEq, ↓z_x_eq, z_g_t, z_bI_s, z_bL_s, z_bR_s, z_bV_s, Int.cast_ofNat_Int, beq_self_eq_true, Bool.and_true, Bool.true_and, Bool.and_self, Bool.or_true, Bool.true_or, Bool.false_and, Bool.and_false, Bool.false_or, Bool.or_false, Bool.not_false, Bool.not_true, if_true, if_false, ite_true, ite_false, z_up_eq, z_up_app, z_ro_eq, c1', hl, c2', w]
      congr 5
      simp only [decide_eq_decide]
      omega
    · have c2' : (28 + q = 30) = False := eq_false (by omega)
      by_cases c3 : k < 24
      · have c3' : (k < 24) = True := eq_true c3
        simp -implicitDefEqProofs (disch := first | assumption | omega | rfl | (simp only [z_up_eq, z_up_app, ↓reduceIte, Nat.reduceEqDiff]; omega)) only [z_lit0, z_lit1, z_lit2, z_litl, iI_add, iI_sub, iI_mul, iI_neg, iI_and, iI_or, iI_xor, iI_shl, iI_shr, iI_ushr, iI_div, iI_b, iI_c, iI_i2l, lI_l2i, lI_add, lI_sub, lI_mul, lI_neg, lI_div, lI_or, lI_and, lI_shl, lI_shr, nI_iI, lg_lt0, lg_gt0, lg_eq0, i_ne0', l_ne0', iI_lt, iI_le, iI_eq, lI_lt, lI_le, lI_eq, zb_0, zb_fit, zb_fit0, zb_fit1, i_one_zero, i_w_in, z_tb0, z_tb1, z_tb2, z_tb3, z_tb4, z_tb5, z_tb6, z_tb7, z_tb8, z_tbl, z_tu0, z_tu1, z_tu2, z_i_62, z_i_63, z_i_86, z_i_88, z_l_Y, z_ui_62, z_ui_63, z_ui_86, z_ui_88, z_ul_Y, z_sz_Y, z_sw_Y, iI_nat, z_ix_t, z_at, Int.add_zero, Int.sub_zero, Int.zero_add, Int.mul_zero, ne_eq, Bool.false_eq_true, Bool.true_eq_false, reduceCtorEq, eq_self, and_true, true_and, and_false, false_and, and_self, not_true_eq_false, not_false_eq_true, decide_true, decide_false, ↓reduceIte, Int.reduceEq, Int.reduceNe, Int.reduceLT, Int.reduceLE, Int.reduceAdd, Int.reduceSub, Int.reduceMul, Int.reduceNeg, Nat.reduceAdd, Nat.reduceEqDiff, Nat.reduceBEq, ↓z_x_eq, z_g_t, z_bI_s, z_bL_s, z_bR_s, z_bV_s, Int.cast_ofNat_Int, beq_self_eq_true, Bool.and_true, Bool.true_and, Bool.and_self, Bool.or_true, Bool.true_or, Bool.false_and, Bool.and_false, Bool.false_or, Bool.or_false, Bool.not_false, Bool.not_true, if_true, if_false, ite_true, ite_false, z_up_eq, z_up_app, z_ro_eq, c1', hl, c2', c3']
        rw [decide_eq_true (by omega)]; rfl
      · have c3' : (k < 24) = False := eq_false c3
        by_cases c4 : k = 24
        · have c4' : (k = 24) = True := eq_true c4
          by_cases c5 : q = 1
          · have c5' : (28 + q = 29) = True := eq_true (by omega)
            simp -implicitDefEqProofs (disch := first | assumption | omega | rfl | (simp only [z_up_eq, z_up_app, ↓reduceIte, Nat.reduceEqDiff]; omega)) only [z_lit0, z_lit1, z_lit2, z_litl, iI_add, iI_sub, iI_mul, iI_neg, iI_and, iI_or, iI_xor, iI_shl, iI_shr, iI_ushr, iI_div, iI_b, iI_c, iI_i2l, lI_l2i, lI_add, lI_sub, lI_mul, lI_neg, lI_div, lI_or, lI_and, lI_shl, lI_shr, nI_iI, lg_lt0, lg_gt0, lg_eq0, i_ne0', l_ne0', iI_lt, iI_le, iI_eq, lI_lt, lI_le, lI_eq, zb_0, zb_fit, zb_fit0, zb_fit1, i_one_zero, i_w_in, z_tb0, z_tb1, z_tb2, z_tb3, z_tb4, z_tb5, z_tb6, z_tb7, z_tb8, z_tbl, z_tu0, z_tu1, z_tu2, z_i_62, z_i_63, z_i_86, z_i_88, z_l_Y, z_ui_62, z_ui_63, z_ui_86, z_ui_88, z_ul_Y, z_sz_Y, z_sw_Y, iI_nat, z_ix_t, z_at, Int.add_zero, Int.sub_zero, Int.zero_add, Int.mul_zero, ne_eq, Bool.false_eq_true, Bool.true_eq_false, reduceCtorEq, eq_self, and_true, true_and, and_false, false_and, and_self, not_true_eq_false, not_false_eq_true, decide_true, decide_false, ↓reduceIte, Int.reduceEq, Int.reduceNe, Int.reduceLT, Int.reduceLE, Int.reduceAdd, Int.reduceSub, Int.reduceMul, Int.reduceNeg, Nat.reduceAdd, Nat.reduceEqDiff, Nat.reduceBEq, ↓z_x_eq, z_g_t, z_bI_s, z_bL_s, z_bR_s, z_bV_s, Int.cast_ofNat_Int, beq_self_eq_true, Bool.and_true, Bool.true_and, Bool.and_self, Bool.or_true, Bool.true_or, Bool.false_and, Bool.and_false, Bool.false_or, Bool.or_false, Bool.not_false, Bool.not_true, if_true, if_false, ite_true, ite_false, z_up_eq, z_up_app, z_ro_eq, c1', hl, c2', c3', c4', c5']
            rw [decide_eq_true (by omega)]; rfl
          · have c5' : (28 + q = 29) = False := eq_false (by omega)
            simp -implicitDefEqProofs (disch := first | assumption | omega | rfl | (simp only [z_up_eq, z_up_app, ↓reduceIte, Nat.reduceEqDiff]; omega)) only [z_lit0, z_lit1, z_lit2, z_litl, iI_add, iI_sub, iI_mul, iI_neg, iI_and, iI_or, iI_xor, iI_shl, iI_shr, iI_ushr, iI_div, iI_b, iI_c, iI_i2l, lI_l2i, lI_add, lI_sub, lI_mul, lI_neg, lI_div, lI_or, lI_and, lI_shl, lI_shr, nI_iI, lg_lt0, lg_gt0, lg_eq0, i_ne0', l_ne0', iI_lt, iI_le, iI_eq, lI_lt, lI_le, lI_eq, zb_0, zb_fit, zb_fit0, zb_fit1, i_one_zero, i_w_in, z_tb0, z_tb1, z_tb2, z_tb3, z_tb4, z_tb5, z_tb6, z_tb7, z_tb8, z_tbl, z_tu0, z_tu1, z_tu2, z_i_62, z_i_63, z_i_86, z_i_88, z_l_Y, z_ui_62, z_ui_63, z_ui_86, z_ui_88, z_ul_Y, z_sz_Y, z_sw_Y, iI_nat, z_ix_t, z_at, Int.add_zero, Int.sub_zero, Int.zero_add, Int.mul_zero, ne_eq, Bool.false_eq_true, Bool.true_eq_false, reduceCtorEq, eq_self, and_true, true_and, and_false, false_and, and_self, not_true_eq_false, not_false_eq_true, decide_true, decide_false, ↓reduceIte, Int.reduceEq, Int.reduceNe, Int.reduceLT, Int.reduceLE, Int.reduceAdd, Int.reduceSub, Int.reduceMul, Int.reduceNeg, Nat.reduceAdd, Nat.reduceEqDiff, Nat.reduceBEq, ↓z_x_eq, z_g_t, z_bI_s, z_bL_s, z_bR_s, z_bV_s, Int.cast_ofNat_Int, beq_self_eq_true, Bool.and_true, Bool.true_and, Bool.and_self, Bool.or_true, Bool.true_or, Bool.false_and, Bool.and_false, Bool.false_or, Bool.or_false, Bool.not_false, Bool.not_true, if_true, if_false, ite_true, ite_false, z_up_eq, z_up_app, z_ro_eq, c1', hl, c2', c3', c4', c5']
            rw [decide_eq_false (by omega)]; rfl
        · have c4' : (k = 24) = False := eq_false c4
          simp -implicitDefEqProofs (disch := first | assumption | omega | rfl | (simp only [z_up_eq, z_up_app, ↓reduceIte, Nat.reduceEqDiff]; omega)) only [z_lit0, z_lit1, z_lit2, z_litl, iI_add, iI_sub, iI_mul, iI_neg, iI_and, iI_or, iI_xor, iI_shl, iI_shr, iI_ushr, iI_div, iI_b, iI_c, iI_i2l, lI_l2i, lI_add, lI_sub, lI_mul, lI_neg, lI_div, lI_or, lI_and, lI_shl, lI_shr, nI_iI, lg_lt0, lg_gt0, lg_eq0, i_ne0', l_ne0', iI_lt, iI_le, iI_eq, lI_lt, lI_le, lI_eq, zb_0, zb_fit, zb_fit0, zb_fit1, i_one_zero, i_w_in, z_tb0, z_tb1, z_tb2, z_tb3, z_tb4, z_tb5, z_tb6, z_tb7, z_tb8, z_tbl, z_tu0, z_tu1, z_tu2, z_i_62, z_i_63, z_i_86, z_i_88, z_l_Y, z_ui_62, z_ui_63, z_ui_86, z_ui_88, z_ul_Y, z_sz_Y, z_sw_Y, iI_nat, z_ix_t, z_at, Int.add_zero, Int.sub_zero, Int.zero_add, Int.mul_zero, ne_eq, Bool.false_eq_true, Bool.true_eq_false, reduceCtorEq, eq_self, and_true, true_and, and_false, false_and, and_self, not_true_eq_false, not_false_eq_true, decide_true, decide_false, ↓reduceIte, Int.reduceEq, Int.reduceNe, Int.reduceLT, Int.reduceLE, Int.reduceAdd, Int.reduceSub, Int.reduceMul, Int.reduceNeg, Nat.reduceAdd, Nat.reduceEqDiff, Nat.reduceBEq, ↓z_x_eq, z_g_t, z_bI_s, z_bL_s, z_bR_s, z_bV_s, Int.cast_ofNat_Int, beq_self_eq_true, Bool.and_true, Bool.true_and, Bool.and_self, Bool.or_true, Bool.true_or, Bool.false_and, Bool.and_false, Bool.false_or, Bool.or_false, Bool.not_false, Bool.not_true, if_true, if_false, ite_true, ite_false, z_up_eq, z_up_app, z_ro_eq, c1', hl, c2', c3', c4']
          rw [decide_eq_false (by omega)]; rfl
end

/-! THE PURE PART, 93: clauses; the class's reader of them -/
abbrev UC : Type := Int × List Int × List (Int × Int)
abbrev UN : Type := Int × Nat × List Int
def j_fm (q : Int) : List (Int × Int × Int) := if q = 3 then [(31, 0, 3), (24, 0, 9)] else if q = 4 then [(32, 1, 9), (20, 1, 9), (39, 0, 17)] else if q = 5 then [(27, 0, 9999), (26, 0, 99)] else if q = 6 then [(33, 0, 9), (40, 0, 9)] else if q = 7 then [(34, 0, 9)] else if q = 8 then [(35, 0, 9)] else if q = 9 then [(36, 0, 9)] else if q = 10 then [(37, 0, 3)] else if q = 11 then [(38, 0, 9)] else [(18, 1, 999)]
def j_nums (K V : Nat → Int) : List (Int × Int × Int) → Nat → UN
  | [], j => (0, j, [])
  | f :: l, j => if K j = f.1 then (if K (j + 1) = 2 then (if f.2.1 ≤ V (j + 1) ∧ V (j + 1) ≤ f.2.2 then ((j_nums K V l (j + 2)).1, (j_nums K V l (j + 2)).2.1, V (j + 1) :: (j_nums K V l (j + 2)).2.2) else (2, j + 1, [])) else (1, j + 1, [])) else (1, j, [])
def j_fd (q : Int) : List UC → Option (List (Int × Int))
  | [] => none
  | c :: cs => if c.1 = q then some c.2.2 else j_fd q cs
/-- the semicolon behind a clause -/
def j_sc (K : Nat → Int) (f : Int) (j : Nat) (c : UC) : Int × Nat × UC := if f = 0 then (if K j = 15 then (0, j + 1, c) else (1, j, c)) else (f, j, c)
def j_clz (K V : Nat → Int) (cs : List UC) (j : Nat) : Int × Nat × UC :=
  if n_so (K j) < 0 then (1, j, (0, [], []))
  else if n_so (K j) ≤ 2 ∧ (j_fd (n_so (K j)) cs).isSome = true then (4, j, (0, [], []))
  else if 24 ≤ cs.length then (6, j, (0, [], []))
  else if n_so (K j) ≤ 2 then j_sc K (j_law K V (j_nm (n_so (K j))) (decide (n_so (K j) = 2)) (j + 1)).1 (j_law K V (j_nm (n_so (K j))) (decide (n_so (K j) = 2)) (j + 1)).2.1 (n_so (K j), [], (j_law K V (j_nm (n_so (K j))) (decide (n_so (K j) = 2)) (j + 1)).2.2)
  else j_sc K (j_nums K V (j_fm (n_so (K j))) j).1 (j_nums K V (j_fm (n_so (K j))) j).2.1 (n_so (K j), (j_nums K V (j_fm (n_so (K j))) j).2.2, [])
theorem j_fd_app {q : Int} {c : UC} : ∀ (cs : List UC), j_fd q (cs ++ [c]) = match j_fd q cs with | some D => some D | none => if c.1 = q then some c.2.2 else none
  | [] => rfl
  | a :: cs => by
    show (if a.1 = q then some a.2.2 else j_fd q (cs ++ [c])) = match (if a.1 = q then some a.2.2 else j_fd q cs) with | some D => some D | none => if c.1 = q then some c.2.2 else none
    by_cases h : a.1 = q
    · rw [if_pos h, if_pos h]
    · rw [if_neg h, if_neg h]; exact j_fd_app cs
theorem n_so_cs (K : Int) : (28 ≤ K ∧ K ≤ 32 ∧ n_so K = K - 28) ∨ (K = 27 ∧ n_so K = 5) ∨ (33 ≤ K ∧ K ≤ 38 ∧ n_so K = K - 27) ∨ (K = 18 ∧ n_so K = 12) ∨ (n_so K = -1 ∧ ¬ (28 ≤ K ∧ K ≤ 32) ∧ K ≠ 27 ∧ ¬ (33 ≤ K ∧ K ≤ 38) ∧ K ≠ 18) := by
  by_cases c1 : 28 ≤ K ∧ K ≤ 32
  · exact Or.inl ⟨c1.1, c1.2, if_pos c1⟩
  by_cases c2 : K = 27
  · exact Or.inr (Or.inl ⟨c2, (if_neg c1).trans (if_pos c2)⟩)
  by_cases c3 : 33 ≤ K ∧ K ≤ 38
  · exact Or.inr (Or.inr (Or.inl ⟨c3.1, c3.2, (if_neg c1).trans ((if_neg c2).trans (if_pos c3))⟩))
  by_cases c4 : K = 18
  · exact Or.inr (Or.inr (Or.inr (Or.inl ⟨c4, (if_neg c1).trans ((if_neg c2).trans ((if_neg c3).trans (if_pos c4)))⟩)))
  · exact Or.inr (Or.inr (Or.inr (Or.inr ⟨(if_neg c1).trans ((if_neg c2).trans ((if_neg c3).trans (if_neg c4))), c1, c2, c3, c4⟩)))
theorem n_so_in (K : Int) : n_so K = -1 ∨ (0 ≤ n_so K ∧ n_so K ≤ 12) := by
  have := n_so_cs K
  omega
theorem n_so_kn : ∀ n : Nat, n < 45 → 0 ≤ n_so n → t_kind (n_so n) = n := by decide +kernel
theorem n_so_k {K : Int} (h : 0 ≤ n_so K) : t_kind (n_so K) = K := by
  have c := n_so_cs K
  have := n_so_kn K.toNat (by omega)
  rw [show ((K.toNat : Nat) : Int) = K by omega] at this
  exact this h
theorem n_so_l {K : Int} (h : 0 ≤ n_so K ∧ n_so K ≤ 2) : K = 28 + n_so K := by
  have := n_so_cs K
  omega
theorem n_so_3 {K : Int} (h : 3 ≤ n_so K) : (31 ≤ K ∧ K ≤ 38) ∨ K = 27 ∨ K = 18 := by
  have := n_so_cs K
  omega
section
variable {T : ZT} {G : ZG} {s : ZG × ZG} {K V X : Nat → Int} {N : Nat}
theorem p_form_i {E : Nat} (hE : 1 ≤ E) (hS : ∀ j : Int, 0 ≤ j → j < 90 → G 2 j = y_fm.getD j.toNat 0) {k : Int} (hk : 0 ≤ k ∧ k ≤ 44) (i : Nat) (hi : i < 10) : z_w d_Re_formOf (z_call E) 2 [none, some (vi (iI k)), some (vi (iI ((9 * i : Nat) : Int)))] [] (z_Y T G s) = if k = y_fm.getD (9 * i) 0 then some (vi (iI ((9 * i : Nat) : Int)), z_Y T G s) else z_w d_Re_formOf (z_call E) 2 [none, some (vi (iI k)), some (vi (iI ((9 * (i + 1) : Nat) : Int)))] [] (z_Y T G s) := by
  have e := hS ((9 * i : Nat) : Int) (by omega) (by omega)
  rw [show (((9 * i : Nat) : Int)).toNat = 9 * i by omega] at e
  have yb : ∀ n : Nat, n < 90 → -1 ≤ y_fm.getD n 0 ∧ y_fm.getD n 0 ≤ 9999 := by decide +kernel
  have yb' := yb (9 * i) (by omega)
  have c0 : (((9 * i : Nat) : Int) < 90) = True := eq_true (by omega)
  have xb : 0 ≤ ((9 * i : Nat) : Int) ∧ ((9 * i : Nat) : Int) < 90 := by omega
  rw [show ((9 * (i + 1) : Nat) : Int) = ((9 * i : Nat) : Int) + 9 by omega]
  generalize y_fm.getD (9 * i) 0 = w at *
  generalize ((9 * i : Nat) : Int) = x at *
  rw [e_Re_formOf_2]
  by_cases c : k = w
  · have c' : (w = k) = True := eq_true c.symm
    rw [if_pos c]
    simp -implicitDefEqProofs (disch := first | assumption | omega | rfl | (simp only [z_up_eq, z_up_app, ↓reduceIte, Nat.reduceEqDiff]; omega)) only [z_lit0, z_lit1, z_lit2, z_litl, iI_add, iI_sub, iI_mul, iI_neg, iI_and, iI_or, iI_xor, iI_shl, iI_shr, iI_ushr, iI_div, iI_b, iI_c, iI_i2l, lI_l2i, lI_add, lI_sub, lI_mul, lI_neg, lI_div, lI_or, lI_and, lI_shl, lI_shr, nI_iI, lg_lt0, lg_gt0, lg_eq0, i_ne0', l_ne0', iI_lt, iI_le, iI_eq, lI_lt, lI_le, lI_eq, zb_0, zb_fit, zb_fit0, zb_fit1, i_one_zero, i_w_in, z_tb0, z_tb1, z_tb2, z_tb3, z_tb4, z_tb5, z_tb6, z_tb7, z_tb8, z_tbl, z_tu0, z_tu1, z_tu2, z_i_62, z_i_63, z_i_86, z_i_88, z_l_Y, z_ui_62, z_ui_63, z_ui_86, z_ui_88, z_ul_Y, z_sz_Y, z_sw_Y, iI_nat, z_ix_t, z_at, Int.add_zero, Int.sub_zero, Int.zero_add, Int.mul_zero, ne_eq, Bool.false_eq_true, Bool.true_eq_false, reduceCtorEq, eq_self, and_true, true_and, and_false, false_and, and_self, not_true_eq_false, not_false_eq_true, decide_true, decide_false, ↓reduceIte, Int.reduceEq, Int.reduceNe, Int.reduceLT, Int.reduceLE, Int.reduceAdd, Int.reduceSub, Int.reduceMul, Int.reduceNeg, Nat.reduceAdd, Nat.reduceEqDiff, Nat.reduceBEq, ↓z_x_eq, z_g_t, z_bI_s, z_bL_s, z_bR_s, z_bV_s, Int.cast_ofNat_Int, beq_self_eq_true, Bool.and_true, Bool.true_and, Bool.and_self, Bool.or_true, Bool.true_or, Bool.false_and, Bool.and_false, Bool.false_or, Bool.or_false, Bool.not_false, Bool.not_true, if_true, if_false, ite_true, ite_false, z_up_eq, z_up_app, z_ro_eq, c0, e, c']
  · have c' : (w = k) = False := eq_false (fun z => c z.symm)
    rw [if_neg c]
    simp -implicitDefEqProofs (disch := first | assumption | omega | rfl | (simp only [z_up_eq, z_up_app, ↓reduceIte, Nat.reduceEqDiff]; omega)) only [z_lit0, z_lit1, z_lit2, z_litl, iI_add, iI_sub, iI_mul, iI_neg, iI_and, iI_or, iI_xor, iI_shl, iI_shr, iI_ushr, iI_div, iI_b, iI_c, iI_i2l, lI_l2i, lI_add, lI_sub, lI_mul, lI_neg, lI_div, lI_or, lI_and, lI_shl, lI_shr, nI_iI, lg_lt0, lg_gt0, lg_eq0, i_ne0', l_ne0', iI_lt, iI_le, iI_eq, lI_lt, lI_le, lI_eq, zb_0, zb_fit, zb_fit0, zb_fit1, i_one_zero, i_w_in, z_tb0, z_tb1, z_tb2, z_tb3, z_tb4, z_tb5, z_tb6, z_tb7, z_tb8, z_tbl, z_tu0, z_tu1, z_tu2, z_i_62, z_i_63, z_i_86, z_i_88, z_l_Y, z_ui_62, z_ui_63, z_ui_86, z_ui_88, z_ul_Y, z_sz_Y, z_sw_Y, iI_nat, z_ix_t, z_at, Int.add_zero, Int.sub_zero, Int.zero_add, Int.mul_zero, ne_eq, Bool.false_eq_true, Bool.true_eq_false, reduceCtorEq, eq_self, and_true, true_and, and_false, false_and, and_self, not_true_eq_false, not_false_eq_true, decide_true, decide_false, ↓reduceIte, Int.reduceEq, Int.reduceNe, Int.reduceLT, Int.reduceLE, Int.reduceAdd, Int.reduceSub, Int.reduceMul, Int.reduceNeg, Nat.reduceAdd, Nat.reduceEqDiff, Nat.reduceBEq, ↓z_x_eq, z_g_t, z_bI_s, z_bL_s, z_bR_s, z_bV_s, Int.cast_ofNat_Int, beq_self_eq_true, Bool.and_true, Bool.true_and, Bool.and_self, Bool.or_true, Bool.true_or, Bool.false_and, Bool.and_false, Bool.false_or, Bool.or_false, Bool.not_false, Bool.not_true, if_true, if_false, ite_true, ite_false, z_up_eq, z_up_app, z_ro_eq, c0, e, c']
theorem p_formOf {E : Nat} (hE : 2 ≤ E) (hS : ∀ j : Int, 0 ≤ j → j < 90 → G 2 j = y_fm.getD j.toNat 0) {k : Int} (hk : 0 ≤ k ∧ k ≤ 44) : z_call E 56 [vr 56, vi (iI k)] (z_Y T G s) = some (vi (iI (if 3 ≤ n_so k then 9 * (n_so k - 3) else -1)), z_Y T G s) := by
  obtain ⟨d, rfl⟩ : ∃ d, E = d + 1 := ⟨E - 1, by omega⟩
  have hE' : 1 ≤ d := by omega
  rw [e_Re_formOf, show (0 : Int32) = iI ((9 * 0 : Nat) : Int) from rfl]
  rw [p_form_i hE' hS hk 0 (by omega)]
  rw [p_form_i hE' hS hk 1 (by omega)]
  rw [p_form_i hE' hS hk 2 (by omega)]
  rw [p_form_i hE' hS hk 3 (by omega)]
  rw [p_form_i hE' hS hk 4 (by omega)]
  rw [p_form_i hE' hS hk 5 (by omega)]
  rw [p_form_i hE' hS hk 6 (by omega)]
  rw [p_form_i hE' hS hk 7 (by omega)]
  rw [p_form_i hE' hS hk 8 (by omega)]
  rw [p_form_i hE' hS hk 9 (by omega)]
  rw [show y_fm.getD (9 * 0) 0 = (31 : Int) from rfl]
  rw [show y_fm.getD (9 * 1) 0 = (32 : Int) from rfl]
  rw [show y_fm.getD (9 * 2) 0 = (27 : Int) from rfl]
  rw [show y_fm.getD (9 * 3) 0 = (33 : Int) from rfl]
  rw [show y_fm.getD (9 * 4) 0 = (34 : Int) from rfl]
  rw [show y_fm.getD (9 * 5) 0 = (35 : Int) from rfl]
  rw [show y_fm.getD (9 * 6) 0 = (36 : Int) from rfl]
  rw [show y_fm.getD (9 * 7) 0 = (37 : Int) from rfl]
  rw [show y_fm.getD (9 * 8) 0 = (38 : Int) from rfl]
  rw [show y_fm.getD (9 * 9) 0 = (18 : Int) from rfl]
  by_cases c0 : k = 31
  · rw [if_pos c0, show (if 3 ≤ n_so k then 9 * (n_so k - 3) else -1) = (0 : Int) by rw [n_so_at (K := k) (x := 3) (by omega)]; rfl]
    rfl
  rw [if_neg c0]
  by_cases c1 : k = 32
  · rw [if_pos c1, show (if 3 ≤ n_so k then 9 * (n_so k - 3) else -1) = (9 : Int) by rw [n_so_at (K := k) (x := 4) (by omega)]; rfl]
    rfl
  rw [if_neg c1]
  by_cases c2 : k = 27
  · rw [if_pos c2, show (if 3 ≤ n_so k then 9 * (n_so k - 3) else -1) = (18 : Int) by rw [n_so_at (K := k) (x := 5) (by omega)]; rfl]
    rfl
  rw [if_neg c2]
  by_cases c3 : k = 33
  · rw [if_pos c3, show (if 3 ≤ n_so k then 9 * (n_so k - 3) else -1) = (27 : Int) by rw [n_so_at (K := k) (x := 6) (by omega)]; rfl]
    rfl
  rw [if_neg c3]
  by_cases c4 : k = 34
  · rw [if_pos c4, show (if 3 ≤ n_so k then 9 * (n_so k - 3) else -1) = (36 : Int) by rw [n_so_at (K := k) (x := 7) (by omega)]; rfl]
    rfl
  rw [if_neg c4]
  by_cases c5 : k = 35
  · rw [if_pos c5, show (if 3 ≤ n_so k then 9 * (n_so k - 3) else -1) = (45 : Int) by rw [n_so_at (K := k) (x := 8) (by omega)]; rfl]
    rfl
  rw [if_neg c5]
  by_cases c6 : k = 36
  · rw [if_pos c6, show (if 3 ≤ n_so k then 9 * (n_so k - 3) else -1) = (54 : Int) by rw [n_so_at (K := k) (x := 9) (by omega)]; rfl]
    rfl
  rw [if_neg c6]
  by_cases c7 : k = 37
  · rw [if_pos c7, show (if 3 ≤ n_so k then 9 * (n_so k - 3) else -1) = (63 : Int) by rw [n_so_at (K := k) (x := 10) (by omega)]; rfl]
    rfl
  rw [if_neg c7]
  by_cases c8 : k = 38
  · rw [if_pos c8, show (if 3 ≤ n_so k then 9 * (n_so k - 3) else -1) = (72 : Int) by rw [n_so_at (K := k) (x := 11) (by omega)]; rfl]
    rfl
  rw [if_neg c8]
  by_cases c9 : k = 18
  · rw [if_pos c9, show (if 3 ≤ n_so k then 9 * (n_so k - 3) else -1) = (81 : Int) by rw [n_so_at (K := k) (x := 12) (by omega)]; rfl]
    rfl
  rw [if_neg c9]
  rw [show (if 3 ≤ n_so k then 9 * (n_so k - 3) else -1) = (-1 : Int) from if_neg (fun h => by have := n_so_3 h; omega), show ((9 * (9 + 1) : Nat) : Int) = 90 from rfl, e_Re_formOf_2]
  simp -implicitDefEqProofs (disch := first | assumption | omega | rfl | (simp only [z_up_eq, z_up_app, ↓reduceIte, Nat.reduceEqDiff]; omega)) only [z_lit0, z_lit1, z_lit2, z_litl, iI_add, iI_sub, iI_mul, iI_neg, iI_and, iI_or, iI_xor, iI_shl, iI_shr, iI_ushr, iI_div, iI_b, iI_c, iI_i2l, lI_l2i, lI_add, lI_sub, lI_mul, lI_neg, lI_div, lI_or, lI_and, lI_shl, lI_shr, nI_iI, lg_lt0, lg_gt0, lg_eq0, i_ne0', l_ne0', iI_lt, iI_le, iI_eq, lI_lt, lI_le, lI_eq, zb_0, zb_fit, zb_fit0, zb_fit1, i_one_zero, i_w_in, z_tb0, z_tb1, z_tb2, z_tb3, z_tb4, z_tb5, z_tb6, z_tb7, z_tb8, z_tbl, z_tu0, z_tu1, z_tu2, z_i_62, z_i_63, z_i_86, z_i_88, z_l_Y, z_ui_62, z_ui_63, z_ui_86, z_ui_88, z_ul_Y, z_sz_Y, z_sw_Y, iI_nat, z_ix_t, z_at, Int.add_zero, Int.sub_zero, Int.zero_add, Int.mul_zero, ne_eq, Bool.false_eq_true, Bool.true_eq_false, reduceCtorEq, eq_self, and_true, true_and, and_false, false_and, and_self, not_true_eq_false, not_false_eq_true, decide_true, decide_false, ↓reduceIte, Int.reduceEq, Int.reduceNe, Int.reduceLT, Int.reduceLE, Int.reduceAdd, Int.reduceSub, Int.reduceMul, Int.reduceNeg, Nat.reduceAdd, Nat.reduceEqDiff, Nat.reduceBEq, ↓z_x_eq, z_g_t, z_bI_s, z_bL_s, z_bR_s, z_bV_s, Int.cast_ofNat_Int, beq_self_eq_true, Bool.and_true, Bool.true_and, Bool.and_self, Bool.or_true, Bool.true_or, Bool.false_and, Bool.and_false, Bool.false_or, Bool.or_false, Bool.not_false, Bool.not_true, if_true, if_false, ite_true, ite_false, z_up_eq, z_up_app, z_ro_eq]
theorem q_G_self {j : Nat} (h2 : G 56 2 = (j : Nat)) (h3 : G 56 3 = K j) (h4 : G 56 4 = V j) (h6 : G 56 6 = 0) : q_G G K V j [] = G := by
  unfold q_G
  have e : q_R (G 56) j (K j) (V j) (([] : List (Int × Int)).length : Nat) = G 56 := by
    funext i
    unfold q_R
    by_cases c2 : i = 2
    · rw [if_pos c2, c2, h2]
    rw [if_neg c2]
    by_cases c3 : i = 3
    · rw [if_pos c3, c3, h3]
    rw [if_neg c3]
    by_cases c4 : i = 4
    · rw [if_pos c4, c4, h4]
    rw [if_neg c4]
    by_cases c6 : i = 6
    · rw [if_pos c6, c6, h6]; rfl
    rw [if_neg c6]
  rw [e, z_up_id, q_cd_nil, z_up_id]
theorem q_G_60 (A : Int → Int) (j : Nat) (C : List (Int × Int)) (A' : Int → Int) : z_up (q_G (z_up G 60 A) K V j C) 60 A' = q_G (z_up G 60 A') K V j C := by
  funext r
  by_cases a : r = 60
  · rw [a, z_up_eq, q_G_o _ _ _ _ _ (by omega), z_up_eq]
  rw [z_up_ne _ _ a]
  by_cases b : r = 56
  · rw [b, q_G_56, q_G_56, z_up_ne _ _ (by omega), z_up_ne _ _ (by omega)]
  by_cases c : r = 59
  · rw [c, q_G_59, q_G_59, z_up_ne _ _ (by omega), z_up_ne _ _ (by omega)]
  rw [q_G_o _ _ _ _ _ ⟨b, c⟩, q_G_o _ _ _ _ _ ⟨b, c⟩, z_up_ne _ _ a, z_up_ne _ _ a]
end

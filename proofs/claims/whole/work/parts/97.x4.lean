/-! THE PURE PART, 95: the class reads a clause -/
def c_n (cs : List UC) : Nat := (if (j_fd 0 cs).isSome = true then 1 else 0) + (if (j_fd 1 cs).isSome = true then 1 else 0) + (if (j_fd 2 cs).isSome = true then 1 else 0)
/-- T and G have grown out of T0 and G0 by at most n cells -/
def q_ex (T0 T : ZT) (G0 G : ZG) (n : Nat) : Prop := (T0.2.2.1 ≤ T.2.2.1 ∧ T.2.2.1 ≤ T0.2.2.1 + n) ∧ T.2.2.2 ≤ T0.2.2.2 + 299 * n ∧ (∀ r, r < T0.2.2.1 → T.1 r = T0.1 r) ∧ (∀ r k, r < T0.2.2.1 → r ≠ 56 → T.2.1 r k = T0.2.1 r k) ∧ ∀ r, r < T0.2.2.1 → r ≠ 56 → r ≠ 59 → r ≠ 60 → G r = G0 r
def q_lw (T : ZT) (G : ZG) (m r : Nat) : Option (List (Int × Int)) → Prop
  | none => r = 0
  | some D => m ≤ r ∧ r < T.2.2.1 ∧ T.1 r = (20, D.length) ∧ D.length ≤ 299 ∧ ∀ i : Nat, i < D.length → G r i = t_enc (D.getD i (0, 0)).1 (D.getD i (0, 0)).2
def q_kl (A : Int → Int) (k : Nat) (c : UC) : Prop := A (4 * k) = t_kind c.1 ∧ c.2.1.length ≤ 3 ∧ ∀ i : Nat, i < c.2.1.length → A (4 * k + 1 + i) = c.2.1.getD i 0
/-- the class between two clauses -/
def q_C (T0 : ZT) (G0 : ZG) (K V : Nat → Int) (N : Nat) (cs : List UC) (j : Nat) (T : ZT) (G : ZG) : Prop := (G 56 2 = j ∧ G 56 3 = K j ∧ G 56 4 = V j ∧ G 56 12 = cs.length ∧ G 56 13 = 1 ∧ G 56 14 = 0 ∧ G 56 15 = -1) ∧ (∀ k : Nat, k < cs.length → q_kl (G 60) k (cs.getD k (0, [], []))) ∧ (∀ q : Nat, q < 3 → q_lw T G T0.2.2.1 (T.2.1 56 (8 + q)) (j_fd q cs)) ∧ q_ex T0 T G0 G (c_n cs) ∧ cs.length ≤ 24 ∧ j ≤ N
/-- the class behind a fault -/
def q_X (T0 : ZT) (G0 : ZG) (n x : Int) (T : ZT) (G : ZG) : Prop := G 56 13 = 1 ∧ G 56 14 = n ∧ G 56 15 = x ∧ q_ex T0 T G0 G 3
section
variable {T : ZT} {G : ZG} {s : ZG × ZG} {K V X : Nat → Int} {N : Nat}
theorem p_rrefG {E : Nat} (hE : 1 ≤ E) {j : Int} (h2 : G 56 2 = j) (hj : 0 ≤ j ∧ j < 301) (n : Int) : z_call E 57 [vr 56, vi (iI n)] (z_Y T G s) = some (vi (iI 0), z_Y T (q_F G n (G 58 j)) s) := by
  obtain ⟨d, rfl⟩ : ∃ d, E = d + 1 := ⟨E - 1, by omega⟩
  have o1 : z_ro (G 56) 14 n 2 = j := by rw [z_ro_ne _ _ (by omega)]; exact h2
  unfold q_F
  rw [e_Re_refuse]
  simp -implicitDefEqProofs (disch := first | assumption | omega | rfl | (simp only [z_up_eq, z_up_app, ↓reduceIte, Nat.reduceEqDiff]; omega)) only [z_lit0, z_lit1, z_lit2, z_litl, iI_add, iI_sub, iI_mul, iI_neg, iI_and, iI_or, iI_xor, iI_shl, iI_shr, iI_ushr, iI_div, iI_b, iI_c, iI_i2l, lI_l2i, lI_add, lI_sub, lI_mul, lI_neg, lI_div, lI_or, lI_and, lI_shl, lI_shr, nI_iI, lg_lt0, lg_gt0, lg_eq0, i_ne0', l_ne0', iI_lt, iI_le, iI_eq, lI_lt, lI_le, lI_eq, zb_0, zb_fit, zb_fit0, zb_fit1, i_one_zero, i_w_in, z_tb0, z_tb1, z_tb2, z_tb3, z_tb4, z_tb5, z_tb6, z_tb7, z_tb8, z_tbl, z_tu0, z_tu1, z_tu2, z_i_62, z_i_63, z_i_86, z_i_88, z_l_Y, z_ui_62, z_ui_63, z_ui_86, z_ui_88, z_ul_Y, z_sz_Y, z_sw_Y, iI_nat, z_ix_t, z_at, Int.add_zero, Int.sub_zero, Int.zero_add, Int.mul_zero, ne_eq, Bool.false_eq_true, Bool.true_eq_false, reduceCtorEq, eq_self, and_true, true_and, and_false, false_and, and_self, not_true_eq_false, not_false_eq_true, decide_true, decide_false, ↓reduceIte, Int.reduceEq, Int.reduceNe, Int.reduceLT, Int.reduceLE, Int.reduceAdd, Int.reduceSub, Int.reduceMul, Int.reduceNeg, Nat.reduceAdd, Nat.reduceEqDiff, Nat.reduceBEq, ↓z_x_eq, z_g_t, z_bI_s, z_bL_s, z_bR_s, z_bV_s, Int.cast_ofNat_Int, beq_self_eq_true, Bool.and_true, Bool.true_and, Bool.and_self, Bool.or_true, Bool.true_or, Bool.false_and, Bool.and_false, Bool.false_or, Bool.or_false, Bool.not_false, Bool.not_true, if_true, if_false, ite_true, ite_false, z_up_eq, z_up_app, z_ro_eq, o1, z_up_up]
theorem p_rexpG {E : Nat} (hE : 3 ≤ E) (hT : q_tk G K V X N) {j : Nat} (h2 : G 56 2 = j) (h3 : G 56 3 = K j) (hj : j ≤ N) : z_call E 60 [vr 56, vi (iI 15)] (z_Y T G s) = if K j = 15 then some (vi (iI 1), z_Y T (z_up G 56 (z_ro (z_ro (z_ro (G 56) 2 ((j : Int) + 1)) 3 (K (j + 1))) 4 (V (j + 1)))) s) else some (vi (iI 0), z_Y T (q_F G 1 (X j)) s) := by
  obtain ⟨d, rfl⟩ : ∃ d, E = d + 2 := ⟨E - 2, by omega⟩
  have b := hT.2.2.2 j
  have hN := hT.1
  have rf := p_rrefG (T := T) (s := s) (E := d + 1) (by omega) h2 (by omega) 1
  rw [(hT.2.2.1 j hj).2.2] at rf
  rw [e_Re_expect]
  by_cases c : K j = 15
  · have c' : (K j = 15) = True := eq_true c
    have jl := q_lt hT (show K j ≠ 0 by omega)
    have t := hT.2.2.1 (j + 1) (by omega)
    rw [show ((j + 1 : Nat) : Int) = (j : Int) + 1 by omega] at t
    have g := p_goTo (E := d) (by omega) T G s (j := (j : Int) + 1) (by omega)
    rw [t.1, t.2.1] at g
    rw [if_pos c]
    simp -implicitDefEqProofs (disch := first | assumption | omega | rfl | (simp only [z_up_eq, z_up_app, ↓reduceIte, Nat.reduceEqDiff]; omega)) only [z_lit0, z_lit1, z_lit2, z_litl, iI_add, iI_sub, iI_mul, iI_neg, iI_and, iI_or, iI_xor, iI_shl, iI_shr, iI_ushr, iI_div, iI_b, iI_c, iI_i2l, lI_l2i, lI_add, lI_sub, lI_mul, lI_neg, lI_div, lI_or, lI_and, lI_shl, lI_shr, nI_iI, lg_lt0, lg_gt0, lg_eq0, i_ne0', l_ne0', iI_lt, iI_le, iI_eq, lI_lt, lI_le, lI_eq, zb_0, zb_fit, zb_fit0, zb_fit1, i_one_zero, i_w_in, z_tb0, z_tb1, z_tb2, z_tb3, z_tb4, z_tb5, z_tb6, z_tb7, z_tb8, z_tbl, z_tu0, z_tu1, z_tu2, z_i_62, z_i_63, z_i_86, z_i_88, z_l_Y, z_ui_62, z_ui_63, z_ui_86, z_ui_88, z_ul_Y, z_sz_Y, z_sw_Y, iI_nat, z_ix_t, z_at, Int.add_zero, Int.sub_zero, Int.zero_add, Int.mul_zero, ne_eq, Bool.false_eq_true, Bool.true_eq_false, reduceCtorEq, eq_self, and_true, true_and, and_false, false_and, and_self, not_true_eq_false, not_false_eq_true, decide_true, decide_false, ↓reduceIte, Int.reduceEq, Int.reduceNe, Int.reduceLT, Int.reduceLE, Int.reduceAdd, Int.reduceSub, Int.reduceMul, Int.reduceNeg, Nat.reduceAdd, Nat.reduceEqDiff, Nat.reduceBEq, ↓z_x_eq, z_g_t, z_bI_s, z_bL_s, z_bR_s, z_bV_s, Int.cast_ofNat_Int, beq_self_eq_true, Bool.and_true, Bool.true_and, Bool.and_self, Bool.or_true, Bool.true_or, Bool.false_and, Bool.and_false, Bool.false_or, Bool.or_false, Bool.not_false, Bool.not_true, if_true, if_false, ite_true, ite_false, z_up_eq, z_up_app, z_ro_eq, h3, c', e_Re_next, h2, g]
  · have c' : (K j = 15) = False := eq_false c
    rw [if_neg c]
    simp -implicitDefEqProofs (disch := first | assumption | omega | rfl | (simp only [z_up_eq, z_up_app, ↓reduceIte, Nat.reduceEqDiff]; omega)) only [z_lit0, z_lit1, z_lit2, z_litl, iI_add, iI_sub, iI_mul, iI_neg, iI_and, iI_or, iI_xor, iI_shl, iI_shr, iI_ushr, iI_div, iI_b, iI_c, iI_i2l, lI_l2i, lI_add, lI_sub, lI_mul, lI_neg, lI_div, lI_or, lI_and, lI_shl, lI_shr, nI_iI, lg_lt0, lg_gt0, lg_eq0, i_ne0', l_ne0', iI_lt, iI_le, iI_eq, lI_lt, lI_le, lI_eq, zb_0, zb_fit, zb_fit0, zb_fit1, i_one_zero, i_w_in, z_tb0, z_tb1, z_tb2, z_tb3, z_tb4, z_tb5, z_tb6, z_tb7, z_tb8, z_tbl, z_tu0, z_tu1, z_tu2, z_i_62, z_i_63, z_i_86, z_i_88, z_l_Y, z_ui_62, z_ui_63, z_ui_86, z_ui_88, z_ul_Y, z_sz_Y, z_sw_Y, iI_nat, z_ix_t, z_at, Int.add_zero, Int.sub_zero, Int.zero_add, Int.mul_zero, ne_eq, Bool.false_eq_true, Bool.true_eq_false, reduceCtorEq, eq_self, and_true, true_and, and_false, false_and, and_self, not_true_eq_false, not_false_eq_true, decide_true, decide_false, ↓reduceIte, Int.reduceEq, Int.reduceNe, Int.reduceLT, Int.reduceLE, Int.reduceAdd, Int.reduceSub, Int.reduceMul, Int.reduceNeg, Nat.reduceAdd, Nat.reduceEqDiff, Nat.reduceBEq, ↓z_x_eq, z_g_t, z_bI_s, z_bL_s, z_bR_s, z_bV_s, Int.cast_ofNat_Int, beq_self_eq_true, Bool.and_true, Bool.true_and, Bool.and_self, Bool.or_true, Bool.true_or, Bool.false_and, Bool.and_false, Bool.false_or, Bool.or_false, Bool.not_false, Bool.not_true, if_true, if_false, ite_true, ite_false, z_up_eq, z_up_app, z_ro_eq, h3, c', rf]
theorem p_keepLaw {E : Nat} (hE : 3 ≤ E) {q n : Int} (hq : 0 ≤ q ∧ q ≤ 2) (hl : G 56 7 = 28 + q) (h6 : G 56 6 = n) (hn : 0 ≤ n ∧ n ≤ 300) (hs : 98 ≤ T.2.2.1) : ∃ W s', z_call E 70 [vr 56] (z_Y T G s) = some (vi (iI 0), z_Y (z_ut (z_ta T 20 n.toNat n.toNat) 56 (8 + q.toNat) T.2.2.1) (z_up G T.2.2.1 W) s') ∧ ∀ i, 0 ≤ i → i < n → W i = G 59 i := by
  obtain ⟨d, rfl⟩ : ∃ d, E = d + 1 := ⟨E - 1, by omega⟩
  obtain ⟨W, s', e1, w1⟩ := p_copyOf (E := d) (by omega) T G s (a := 59) (la := 300) (n := n) (fun _ _ _ => rfl) (fun _ _ _ => rfl) (by omega) hs hn (by omega)
  refine ⟨W, s', ?_, w1⟩
  have hm : (56 = T.2.2.1) = False := eq_false (by omega)
  have u8 : ∀ T : ZT, ∀ G s x, z_ur (z_Y T G s) 56 8 x = z_Y (z_ut T 56 8 x) G s := fun T G s x => z_ur_Y T G s x (fun _ => rfl)
  have u9 : ∀ T : ZT, ∀ G s x, z_ur (z_Y T G s) 56 9 x = z_Y (z_ut T 56 9 x) G s := fun T G s x => z_ur_Y T G s x (fun _ => rfl)
  have u10 : ∀ T : ZT, ∀ G s x, z_ur (z_Y T G s) 56 10 x = z_Y (z_ut T 56 10 x) G s := fun T G s x => z_ur_Y T G s x (fun _ => rfl)
  rw [e_Re_keepLaw]
  rcases (show q = 0 ∨ q = 1 ∨ q = 2 by omega) with c | c | c
  · subst c
    have c1 : ((28 : Int) + 0 = 28) = True := eq_true rfl
    simp -implicitDefEqProofs (disch := first | assumption | omega | rfl | (simp only [z_up_eq, z_up_app, ↓reduceIte, Nat.reduceEqDiff]; omega)) only [z_lit0, z_lit1, z_lit2, z_litl, iI_add, iI_sub, iI_mul, iI_neg, iI_and, iI_or, iI_xor, iI_shl, iI_shr, iI_ushr, iI_div, iI_b, iI_c, iI_i2l, lI_l2i, lI_add, lI_sub, lI_mul, lI_neg, lI_div, lI_or, lI_and, lI_shl, lI_shr, nI_iI, lg_lt0, lg_gt0, lg_eq0, i_ne0', l_ne0', iI_lt, iI_le, iI_eq, lI_lt, lI_le, lI_eq, zb_0, zb_fit, zb_fit0, zb_fit1, i_one_zero, i_w_in, z_tb0, z_tb1, z_tb2, z_tb3, z_tb4, z_tb5, z_tb6, z_tb7, z_tb8, z_tbl, z_tu0, z_tu1, z_tu2, z_i_62, z_i_63, z_i_86, z_i_88, z_l_Y, z_ui_62, z_ui_63, z_ui_86, z_ui_88, z_ul_Y, z_sz_Y, z_sw_Y, iI_nat, z_ix_t, z_at, Int.add_zero, Int.sub_zero, Int.zero_add, Int.mul_zero, ne_eq, Bool.false_eq_true, Bool.true_eq_false, reduceCtorEq, eq_self, and_true, true_and, and_false, false_and, and_self, not_true_eq_false, not_false_eq_true, decide_true, decide_false, ↓reduceIte, Int.reduceEq, Int.reduceNe, Int.reduceLT, Int.reduceLE, Int.reduceAdd, Int.reduceSub, Int.reduceMul, Int.reduceNeg, Nat.reduceAdd, Nat.reduceEqDiff, Nat.reduceBEq, ↓z_x_eq, z_g_t, z_bI_s, z_bL_s, z_bR_s, z_bV_s, Int.cast_ofNat_Int, beq_self_eq_true, Bool.and_true, Bool.true_and, Bool.and_self, Bool.or_true, Bool.true_or, Bool.false_and, Bool.and_false, Bool.false_or, Bool.or_false, Bool.not_false, Bool.not_true, if_true, if_false, ite_true, ite_false, z_up_eq, z_up_app, z_ro_eq, h6, e1, hm, hl, u8]
    rfl
  · subst c
    simp -implicitDefEqProofs (disch := first | assumption | omega | rfl | (simp only [z_up_eq, z_up_app, ↓reduceIte, Nat.reduceEqDiff]; omega)) only [z_lit0, z_lit1, z_lit2, z_litl, iI_add, iI_sub, iI_mul, iI_neg, iI_and, iI_or, iI_xor, iI_shl, iI_shr, iI_ushr, iI_div, iI_b, iI_c, iI_i2l, lI_l2i, lI_add, lI_sub, lI_mul, lI_neg, lI_div, lI_or, lI_and, lI_shl, lI_shr, nI_iI, lg_lt0, lg_gt0, lg_eq0, i_ne0', l_ne0', iI_lt, iI_le, iI_eq, lI_lt, lI_le, lI_eq, zb_0, zb_fit, zb_fit0, zb_fit1, i_one_zero, i_w_in, z_tb0, z_tb1, z_tb2, z_tb3, z_tb4, z_tb5, z_tb6, z_tb7, z_tb8, z_tbl, z_tu0, z_tu1, z_tu2, z_i_62, z_i_63, z_i_86, z_i_88, z_l_Y, z_ui_62, z_ui_63, z_ui_86, z_ui_88, z_ul_Y, z_sz_Y, z_sw_Y, iI_nat, z_ix_t, z_at, Int.add_zero, Int.sub_zero, Int.zero_add, Int.mul_zero, ne_eq, Bool.false_eq_true, Bool.true_eq_false, reduceCtorEq, eq_self, and_true, true_and, and_false, false_and, and_self, not_true_eq_false, not_false_eq_true, decide_true, decide_false, ↓reduceIte, Int.reduceEq, Int.reduceNe, Int.reduceLT, Int.reduceLE, Int.reduceAdd, Int.reduceSub, Int.reduceMul, Int.reduceNeg, Nat.reduceAdd, Nat.reduceEqDiff, Nat.reduceBEq, ↓z_x_eq, z_g_t, z_bI_s, z_bL_s, z_bR_s, z_bV_s, Int.cast_ofNat_Int, beq_self_eq_true, Bool.and_true, Bool.true_and, Bool.and_self, Bool.or_true, Bool.true_or, Bool.false_and, Bool.and_false, Bool.false_or, Bool.or_false, Bool.not_false, Bool.not_true, if_true, if_false, ite_true, ite_false, z_up_eq, z_up_app, z_ro_eq, h6, e1, hm, hl, u9]
    rfl
  · subst c
    simp -implicitDefEqProofs (disch := first | assumption | omega | rfl | (simp only [z_up_eq, z_up_app, ↓reduceIte, Nat.reduceEqDiff]; omega)) only [z_lit0, z_lit1, z_lit2, z_litl, iI_add, iI_sub, iI_mul, iI_neg, iI_and, iI_or, iI_xor, iI_shl, iI_shr, iI_ushr, iI_div, iI_b, iI_c, iI_i2l, lI_l2i, lI_add, lI_sub, lI_mul, lI_neg, lI_div, lI_or, lI_and, lI_shl, lI_shr, nI_iI, lg_lt0, lg_gt0, lg_eq0, i_ne0', l_ne0', iI_lt, iI_le, iI_eq, lI_lt, lI_le, lI_eq, zb_0, zb_fit, zb_fit0, zb_fit1, i_one_zero, i_w_in, z_tb0, z_tb1, z_tb2, z_tb3, z_tb4, z_tb5, z_tb6, z_tb7, z_tb8, z_tbl, z_tu0, z_tu1, z_tu2, z_i_62, z_i_63, z_i_86, z_i_88, z_l_Y, z_ui_62, z_ui_63, z_ui_86, z_ui_88, z_ul_Y, z_sz_Y, z_sw_Y, iI_nat, z_ix_t, z_at, Int.add_zero, Int.sub_zero, Int.zero_add, Int.mul_zero, ne_eq, Bool.false_eq_true, Bool.true_eq_false, reduceCtorEq, eq_self, and_true, true_and, and_false, false_and, and_self, not_true_eq_false, not_false_eq_true, decide_true, decide_false, ↓reduceIte, Int.reduceEq, Int.reduceNe, Int.reduceLT, Int.reduceLE, Int.reduceAdd, Int.reduceSub, Int.reduceMul, Int.reduceNeg, Nat.reduceAdd, Nat.reduceEqDiff, Nat.reduceBEq, ↓z_x_eq, z_g_t, z_bI_s, z_bL_s, z_bR_s, z_bV_s, Int.cast_ofNat_Int, beq_self_eq_true, Bool.and_true, Bool.true_and, Bool.and_self, Bool.or_true, Bool.true_or, Bool.false_and, Bool.and_false, Bool.false_or, Bool.or_false, Bool.not_false, Bool.not_true, if_true, if_false, ite_true, ite_false, z_up_eq, z_up_app, z_ro_eq, h6, e1, hm, hl, u10]
    rfl
theorem q_G_r (j : Nat) (C : List (Int × Int)) {k : Int} (h : k ≠ 2 ∧ k ≠ 3 ∧ k ≠ 4 ∧ k ≠ 6) : q_G G K V j C 56 k = G 56 k := by rw [q_G_56, q_R_o _ _ _ _ _ h]
theorem c_n_le (cs : List UC) : c_n cs ≤ 3 := by
  unfold c_n
  split <;> split <;> split <;> omega
theorem c_n_app {cs : List UC} {c : UC} (hq : 3 ≤ c.1) : c_n (cs ++ [c]) = c_n cs ∧ ∀ q : Int, q < 3 → j_fd q (cs ++ [c]) = j_fd q cs := by
  have key : ∀ q : Int, q < 3 → j_fd q (cs ++ [c]) = j_fd q cs := fun q h => by
    rw [j_fd_app]
    cases j_fd q cs with
    | some D => rfl
    | none => exact if_neg (by omega)
  refine ⟨?_, key⟩
  unfold c_n
  rw [key 0 (by omega), key 1 (by omega), key 2 (by omega)]
theorem c_n_law {cs : List UC} {c : UC} (hq : 0 ≤ c.1 ∧ c.1 ≤ 2) (h : j_fd c.1 cs = none) : c_n (cs ++ [c]) = c_n cs + 1 ∧ j_fd c.1 (cs ++ [c]) = some c.2.2 ∧ ∀ q : Int, q ≠ c.1 → j_fd q (cs ++ [c]) = j_fd q cs := by
  have k1 : j_fd c.1 (cs ++ [c]) = some c.2.2 := by rw [j_fd_app, h]; exact if_pos rfl
  have k2 : ∀ q : Int, q ≠ c.1 → j_fd q (cs ++ [c]) = j_fd q cs := fun q hq => by
    rw [j_fd_app]
    cases j_fd q cs with
    | some D => rfl
    | none => exact if_neg (fun z => hq z.symm)
  refine ⟨?_, k1, k2⟩
  unfold c_n
  rcases (show c.1 = 0 ∨ c.1 = 1 ∨ c.1 = 2 by omega) with e | e | e
  · rw [e] at k1 h
    rw [k1, h, k2 1 (by omega), k2 2 (by omega)]
    simp only [Option.isSome_some, Option.isSome_none, if_true, Bool.false_eq_true, if_false]
    omega
  · rw [e] at k1 h
    rw [k1, h, k2 0 (by omega), k2 2 (by omega)]
    simp only [Option.isSome_some, Option.isSome_none, if_true, Bool.false_eq_true, if_false]
    omega
  · rw [e] at k1 h
    rw [k1, h, k2 0 (by omega), k2 1 (by omega)]
    simp only [Option.isSome_some, Option.isSome_none, if_true, Bool.false_eq_true, if_false]
theorem q_kl_app {A A' : Int → Int} {cs : List UC} {c : UC} (h : ∀ k : Nat, k < cs.length → q_kl A k (cs.getD k (0, [], []))) (he : ∀ i : Int, i < 4 * cs.length → A' i = A i) (hc : q_kl A' cs.length c) : ∀ k : Nat, k < (cs ++ [c]).length → q_kl A' k ((cs ++ [c]).getD k (0, [], [])) := by
  intro k a
  rw [List.length_append, List.length_singleton] at a
  by_cases b : k = cs.length
  · have e : (cs ++ [c]).getD k (0, [], []) = c := by rw [b]; simp
    rw [e, b]; exact hc
  · have e : (cs ++ [c]).getD k (0, [], []) = cs.getD k (0, [], []) := by
      rw [List.getD_eq_getElem?_getD, List.getD_eq_getElem?_getD, List.getElem?_append_left (by omega)]
    rw [e]
    obtain ⟨h1, h2, h3⟩ := h k (by omega)
    exact ⟨by rw [he _ (by omega)]; exact h1, h2, fun i z => by rw [he _ (by omega)]; exact h3 i z⟩
/-- a clause -/
theorem p_clause {E : Nat} (hE : 36 ≤ E) {T0 : ZT} {G0 : ZG} {cs : List UC} {j : Nat} (hT : q_tk G0 K V X N) (hS : ∀ j : Int, 0 ≤ j → j < 90 → G0 2 j = y_fm.getD j.toNat 0) (h98 : 98 ≤ T0.2.2.1) (h : q_C T0 G0 K V N cs j T G) (hk0 : K j ≠ 0) : ((j_clz K V cs j).1 = 0 → ∃ T' G' s', z_call E 71 [vr 56] (z_Y T G s) = some (vi (iI 1), z_Y T' G' s') ∧ q_C T0 G0 K V N (cs ++ [(j_clz K V cs j).2.2]) (j_clz K V cs j).2.1 T' G') ∧ ((j_clz K V cs j).1 ≠ 0 → ∃ T' G' s', z_call E 71 [vr 56] (z_Y T G s) = some (vi (iI 0), z_Y T' G' s') ∧ q_X T0 G0 (j_clz K V cs j).1 (X (j_clz K V cs j).2.1) T' G') := by
  obtain ⟨d, rfl⟩ : ∃ d, E = d + 1 := ⟨E - 1, by omega⟩
  obtain ⟨⟨g2, g3, g4, g12, g13, g14, g15⟩, hkl, hlw, ⟨⟨x1, x2⟩, x3, x4, x5, x6⟩, h24, hjN⟩ := h
  have hN := hT.1
  have b := hT.2.2.2 j
  have cn3 := c_n_le cs
  have e57 := x6 57 (by omega) (by omega) (by omega) (by omega)
  have e58 := x6 58 (by omega) (by omega) (by omega) (by omega)
  have e2' := x6 2 (by omega) (by omega) (by omega) (by omega)
  have hTG : ∀ G', G' 57 = G 57 → G' 58 = G 58 → q_tk G' K V X N := fun G' a b => by
    unfold q_tk
    rw [a, b, e57, e58]; exact hT
  have hX := (hT.2.2.1 j hjN).2.2
  rw [← e58] at hX
  have hS' : ∀ j : Int, 0 ≤ j → j < 90 → G 2 j = y_fm.getD j.toNat 0 := fun j a b => by rw [e2']; exact hS j a b
  have fo := p_formOf (T := T) (s := s) (E := d) (by omega) hS' (k := K j) b.1
  have si := n_so_in (K j)
  have sc := n_so_cs (K j)
  have rf := fun n => p_rrefG (T := T) (s := s) (E := d) (by omega) g2 (by omega) n
  rw [hX] at rf
  -- a fault at the clause's word
  have fX : ∀ n, q_X T0 G0 n (X j) T (q_F G n (X j)) := fun n => by
    unfold q_F
    refine ⟨?_, ?_, ?_, ⟨x1, by omega⟩, by omega, x4, x5, fun r a b c e => ?_⟩
    · rw [z_up_eq, z_ro_ne _ _ (by omega), z_ro_ne _ _ (by omega)]; exact g13
    · rw [z_up_eq, z_ro_ne _ _ (by omega), z_ro_eq]
    · rw [z_up_eq, z_ro_eq]
    · rw [z_up_ne _ _ b]; exact x6 r a b c e
  unfold j_clz
  by_cases s0 : n_so (K j) < 0
  · rw [if_pos s0]
    refine ⟨fun z => (by cases z), fun _ => ⟨T, _, s, ?_, fX 1⟩⟩
    have k28 : (K j = 28) = False := eq_false (by omega)
    have k29 : (K j = 29) = False := eq_false (by omega)
    have k30 : (K j = 30) = False := eq_false (by omega)
    rw [show (if 3 ≤ n_so (K j) then 9 * (n_so (K j) - 3) else -1) = (-1 : Int) from if_neg (by omega)] at fo
    have rf1 := rf 1
    rw [e_Re_readClause]
    simp -implicitDefEqProofs (disch := first | assumption | omega | rfl | (simp only [z_up_eq, z_up_app, ↓reduceIte, Nat.reduceEqDiff]; omega)) only [z_lit0, z_lit1, z_lit2, z_litl, iI_add, iI_sub, iI_mul, iI_neg, iI_and, iI_or, iI_xor, iI_shl, iI_shr, iI_ushr, iI_div, iI_b, iI_c, iI_i2l, lI_l2i, lI_add, lI_sub, lI_mul, lI_neg, lI_div, lI_or, lI_and, lI_shl, lI_shr, nI_iI, lg_lt0, lg_gt0, lg_eq0, i_ne0', l_ne0', iI_lt, iI_le, iI_eq, lI_lt, lI_le, lI_eq, zb_0, zb_fit, zb_fit0, zb_fit1, i_one_zero, i_w_in, z_tb0, z_tb1, z_tb2, z_tb3, z_tb4, z_tb5, z_tb6, z_tb7, z_tb8, z_tbl, z_tu0, z_tu1, z_tu2, z_i_62, z_i_63, z_i_86, z_i_88, z_l_Y, z_ui_62, z_ui_63, z_ui_86, z_ui_88, z_ul_Y, z_sz_Y, z_sw_Y, iI_nat, z_ix_t, z_at, Int.add_zero, Int.sub_zero, Int.zero_add, Int.mul_zero, ne_eq, Bool.false_eq_true, Bool.true_eq_false, reduceCtorEq, eq_self, and_true, true_and, and_false, false_and, and_self, not_true_eq_false, not_false_eq_true, decide_true, decide_false, ↓reduceIte, Int.reduceEq, Int.reduceNe, Int.reduceLT, Int.reduceLE, Int.reduceAdd, Int.reduceSub, Int.reduceMul, Int.reduceNeg, Nat.reduceAdd, Nat.reduceEqDiff, Nat.reduceBEq, ↓z_x_eq, z_g_t, z_bI_s, z_bL_s, z_bR_s, z_bV_s, Int.cast_ofNat_Int, beq_self_eq_true, Bool.and_true, Bool.true_and, Bool.and_self, Bool.or_true, Bool.true_or, Bool.false_and, Bool.and_false, Bool.false_or, Bool.or_false, Bool.not_false, Bool.not_true, if_true, if_false, ite_true, ite_false, z_up_eq, z_up_app, z_ro_eq, g3, fo, k28, k29, k30]
    rw [e_Re_readClause_34]
    simp -implicitDefEqProofs (disch := first | assumption | omega | rfl | (simp only [z_up_eq, z_up_app, ↓reduceIte, Nat.reduceEqDiff]; omega)) only [z_lit0, z_lit1, z_lit2, z_litl, iI_add, iI_sub, iI_mul, iI_neg, iI_and, iI_or, iI_xor, iI_shl, iI_shr, iI_ushr, iI_div, iI_b, iI_c, iI_i2l, lI_l2i, lI_add, lI_sub, lI_mul, lI_neg, lI_div, lI_or, lI_and, lI_shl, lI_shr, nI_iI, lg_lt0, lg_gt0, lg_eq0, i_ne0', l_ne0', iI_lt, iI_le, iI_eq, lI_lt, lI_le, lI_eq, zb_0, zb_fit, zb_fit0, zb_fit1, i_one_zero, i_w_in, z_tb0, z_tb1, z_tb2, z_tb3, z_tb4, z_tb5, z_tb6, z_tb7, z_tb8, z_tbl, z_tu0, z_tu1, z_tu2, z_i_62, z_i_63, z_i_86, z_i_88, z_l_Y, z_ui_62, z_ui_63, z_ui_86, z_ui_88, z_ul_Y, z_sz_Y, z_sw_Y, iI_nat, z_ix_t, z_at, Int.add_zero, Int.sub_zero, Int.zero_add, Int.mul_zero, ne_eq, Bool.false_eq_true, Bool.true_eq_false, reduceCtorEq, eq_self, and_true, true_and, and_false, false_and, and_self, not_true_eq_false, not_false_eq_true, decide_true, decide_false, ↓reduceIte, Int.reduceEq, Int.reduceNe, Int.reduceLT, Int.reduceLE, Int.reduceAdd, Int.reduceSub, Int.reduceMul, Int.reduceNeg, Nat.reduceAdd, Nat.reduceEqDiff, Nat.reduceBEq, ↓z_x_eq, z_g_t, z_bI_s, z_bL_s, z_bR_s, z_bV_s, Int.cast_ofNat_Int, beq_self_eq_true, Bool.and_true, Bool.true_and, Bool.and_self, Bool.or_true, Bool.true_or, Bool.false_and, Bool.and_false, Bool.false_or, Bool.or_false, Bool.not_false, Bool.not_true, if_true, if_false, ite_true, ite_false, z_up_eq, z_up_app, z_ro_eq, rf1]
  rw [if_neg s0]
  by_cases sl : n_so (K j) ≤ 2
  · -- a law
    have kl := n_so_l (K := K j) (by omega)
    generalize hq : n_so (K j) = q at *
    have b34 : z_call (d + 1) 71 [vr 56] (z_Y T G s) = z_w d_Re_readClause (z_call d) 34 [some (vr 56), some (vi (iI (K j))), some (vi (iI (if 3 ≤ q then 9 * (q - 3) else -1))), none, none] [vi (iI 1)] (z_Y T G s) := by
      rw [e_Re_readClause]
      by_cases k28 : K j = 28
      · have k28' : (K j = 28) = True := eq_true k28
        simp -implicitDefEqProofs (disch := first | assumption | omega | rfl | (simp only [z_up_eq, z_up_app, ↓reduceIte, Nat.reduceEqDiff]; omega)) only [z_lit0, z_lit1, z_lit2, z_litl, iI_add, iI_sub, iI_mul, iI_neg, iI_and, iI_or, iI_xor, iI_shl, iI_shr, iI_ushr, iI_div, iI_b, iI_c, iI_i2l, lI_l2i, lI_add, lI_sub, lI_mul, lI_neg, lI_div, lI_or, lI_and, lI_shl, lI_shr, nI_iI, lg_lt0, lg_gt0, lg_eq0, i_ne0', l_ne0', iI_lt, iI_le, iI_eq, lI_lt, lI_le, lI_eq, zb_0, zb_fit, zb_fit0, zb_fit1, i_one_zero, i_w_in, z_tb0, z_tb1, z_tb2, z_tb3, z_tb4, z_tb5, z_tb6, z_tb7, z_tb8, z_tbl, z_tu0, z_tu1, z_tu2, z_i_62, z_i_63, z_i_86, z_i_88, z_l_Y, z_ui_62, z_ui_63, z_ui_86, z_ui_88, z_ul_Y, z_sz_Y, z_sw_Y, iI_nat, z_ix_t, z_at, Int.add_zero, Int.sub_zero, Int.zero_add, Int.mul_zero, ne_eq, Bool.false_eq_true, Bool.true_eq_false, reduceCtorEq, eq_self, and_true, true_and, and_false, false_and, and_self, not_true_eq_false, not_false_eq_true, decide_true, decide_false, ↓reduceIte, Int.reduceEq, Int.reduceNe, Int.reduceLT, Int.reduceLE, Int.reduceAdd, Int.reduceSub, Int.reduceMul, Int.reduceNeg, Nat.reduceAdd, Nat.reduceEqDiff, Nat.reduceBEq, ↓z_x_eq, z_g_t, z_bI_s, z_bL_s, z_bR_s, z_bV_s, Int.cast_ofNat_Int, beq_self_eq_true, Bool.and_true, Bool.true_and, Bool.and_self, Bool.or_true, Bool.true_or, Bool.false_and, Bool.and_false, Bool.false_or, Bool.or_false, Bool.not_false, Bool.not_true, if_true, if_false, ite_true, ite_false, z_up_eq, z_up_app, z_ro_eq, g3, fo, k28']
      · have k28' : (K j = 28) = False := eq_false k28
        by_cases k29 : K j = 29
        · have k29' : (K j = 29) = True := eq_true k29
          simp -implicitDefEqProofs (disch := first | assumption | omega | rfl | (simp only [z_up_eq, z_up_app, ↓reduceIte, Nat.reduceEqDiff]; omega)) only [z_lit0, z_lit1, z_lit2, z_litl, iI_add, iI_sub, iI_mul, iI_neg, iI_and, iI_or, iI_xor, iI_shl, iI_shr, iI_ushr, iI_div, iI_b, iI_c, iI_i2l, lI_l2i, lI_add, lI_sub, lI_mul, lI_neg, lI_div, lI_or, lI_and, lI_shl, lI_shr, nI_iI, lg_lt0, lg_gt0, lg_eq0, i_ne0', l_ne0', iI_lt, iI_le, iI_eq, lI_lt, lI_le, lI_eq, zb_0, zb_fit, zb_fit0, zb_fit1, i_one_zero, i_w_in, z_tb0, z_tb1, z_tb2, z_tb3, z_tb4, z_tb5, z_tb6, z_tb7, z_tb8, z_tbl, z_tu0, z_tu1, z_tu2, z_i_62, z_i_63, z_i_86, z_i_88, z_l_Y, z_ui_62, z_ui_63, z_ui_86, z_ui_88, z_ul_Y, z_sz_Y, z_sw_Y, iI_nat, z_ix_t, z_at, Int.add_zero, Int.sub_zero, Int.zero_add, Int.mul_zero, ne_eq, Bool.false_eq_true, Bool.true_eq_false, reduceCtorEq, eq_self, and_true, true_and, and_false, false_and, and_self, not_true_eq_false, not_false_eq_true, decide_true, decide_false, ↓reduceIte, Int.reduceEq, Int.reduceNe, Int.reduceLT, Int.reduceLE, Int.reduceAdd, Int.reduceSub, Int.reduceMul, Int.reduceNeg, Nat.reduceAdd, Nat.reduceEqDiff, Nat.reduceBEq, ↓z_x_eq, z_g_t, z_bI_s, z_bL_s, z_bR_s, z_bV_s, Int.cast_ofNat_Int, beq_self_eq_true, Bool.and_true, Bool.true_and, Bool.and_self, Bool.or_true, Bool.true_or, Bool.false_and, Bool.and_false, Bool.false_or, Bool.or_false, Bool.not_false, Bool.not_true, if_true, if_false, ite_true, ite_false, z_up_eq, z_up_app, z_ro_eq, g3, fo, k28', k29']
        · have k29' : (K j = 29) = False := eq_false k29
          have k30' : (K j = 30) = True := eq_true (by omega)
          simp -implicitDefEqProofs (disch := first | assumption | omega | rfl | (simp only [z_up_eq, z_up_app, ↓reduceIte, Nat.reduceEqDiff]; omega)) only [z_lit0, z_lit1, z_lit2, z_litl, iI_add, iI_sub, iI_mul, iI_neg, iI_and, iI_or, iI_xor, iI_shl, iI_shr, iI_ushr, iI_div, iI_b, iI_c, iI_i2l, lI_l2i, lI_add, lI_sub, lI_mul, lI_neg, lI_div, lI_or, lI_and, lI_shl, lI_shr, nI_iI, lg_lt0, lg_gt0, lg_eq0, i_ne0', l_ne0', iI_lt, iI_le, iI_eq, lI_lt, lI_le, lI_eq, zb_0, zb_fit, zb_fit0, zb_fit1, i_one_zero, i_w_in, z_tb0, z_tb1, z_tb2, z_tb3, z_tb4, z_tb5, z_tb6, z_tb7, z_tb8, z_tbl, z_tu0, z_tu1, z_tu2, z_i_62, z_i_63, z_i_86, z_i_88, z_l_Y, z_ui_62, z_ui_63, z_ui_86, z_ui_88, z_ul_Y, z_sz_Y, z_sw_Y, iI_nat, z_ix_t, z_at, Int.add_zero, Int.sub_zero, Int.zero_add, Int.mul_zero, ne_eq, Bool.false_eq_true, Bool.true_eq_false, reduceCtorEq, eq_self, and_true, true_and, and_false, false_and, and_self, not_true_eq_false, not_false_eq_true, decide_true, decide_false, ↓reduceIte, Int.reduceEq, Int.reduceNe, Int.reduceLT, Int.reduceLE, Int.reduceAdd, Int.reduceSub, Int.reduceMul, Int.reduceNeg, Nat.reduceAdd, Nat.reduceEqDiff, Nat.reduceBEq, ↓z_x_eq, z_g_t, z_bI_s, z_bL_s, z_bR_s, z_bV_s, Int.cast_ofNat_Int, beq_self_eq_true, Bool.and_true, Bool.true_and, Bool.and_self, Bool.or_true, Bool.true_or, Bool.false_and, Bool.and_false, Bool.false_or, Bool.or_false, Bool.not_false, Bool.not_true, if_true, if_false, ite_true, ite_false, z_up_eq, z_up_app, z_ro_eq, g3, fo, k28', k29', k30']
    have lo : z_call d 58 [vr 56, vi (iI (K j))] (z_Y T G s) = some (vr (T.2.1 56 (8 + q.toNat)), z_Y T G s) := by
      obtain ⟨d', rfl⟩ : ∃ d', d = d' + 1 := ⟨d - 1, by omega⟩
      rw [e_Re_lawOf]
      rcases (show q = 0 ∨ q = 1 ∨ q = 2 by omega) with c | c | c
      · have k' : (K j = 28) = True := eq_true (by omega)
        rw [c]
        simp -implicitDefEqProofs (disch := first | assumption | omega | rfl | (simp only [z_up_eq, z_up_app, ↓reduceIte, Nat.reduceEqDiff]; omega)) only [z_lit0, z_lit1, z_lit2, z_litl, iI_add, iI_sub, iI_mul, iI_neg, iI_and, iI_or, iI_xor, iI_shl, iI_shr, iI_ushr, iI_div, iI_b, iI_c, iI_i2l, lI_l2i, lI_add, lI_sub, lI_mul, lI_neg, lI_div, lI_or, lI_and, lI_shl, lI_shr, nI_iI, lg_lt0, lg_gt0, lg_eq0, i_ne0', l_ne0', iI_lt, iI_le, iI_eq, lI_lt, lI_le, lI_eq, zb_0, zb_fit, zb_fit0, zb_fit1, i_one_zero, i_w_in, z_tb0, z_tb1, z_tb2, z_tb3, z_tb4, z_tb5, z_tb6, z_tb7, z_tb8, z_tbl, z_tu0, z_tu1, z_tu2, z_i_62, z_i_63, z_i_86, z_i_88, z_l_Y, z_ui_62, z_ui_63, z_ui_86, z_ui_88, z_ul_Y, z_sz_Y, z_sw_Y, iI_nat, z_ix_t, z_at, Int.add_zero, Int.sub_zero, Int.zero_add, Int.mul_zero, ne_eq, Bool.false_eq_true, Bool.true_eq_false, reduceCtorEq, eq_self, and_true, true_and, and_false, false_and, and_self, not_true_eq_false, not_false_eq_true, decide_true, decide_false, ↓reduceIte, Int.reduceEq, Int.reduceNe, Int.reduceLT, Int.reduceLE, Int.reduceAdd, Int.reduceSub, Int.reduceMul, Int.reduceNeg, Nat.reduceAdd, Nat.reduceEqDiff, Nat.reduceBEq, ↓z_x_eq, z_g_t, z_bI_s, z_bL_s, z_bR_s, z_bV_s, Int.cast_ofNat_Int, beq_self_eq_true, Bool.and_true, Bool.true_and, Bool.and_self, Bool.or_true, Bool.true_or, Bool.false_and, Bool.and_false, Bool.false_or, Bool.or_false, Bool.not_false, Bool.not_true, if_true, if_false, ite_true, ite_false, z_up_eq, z_up_app, z_ro_eq, k']
        rfl
      · have k' : (K j = 28) = False := eq_false (by omega)
        have k2' : (K j = 29) = True := eq_true (by omega)
        rw [c]
        simp -implicitDefEqProofs (disch := first | assumption | omega | rfl | (simp only [z_up_eq, z_up_app, ↓reduceIte, Nat.reduceEqDiff]; omega)) only [z_lit0, z_lit1, z_lit2, z_litl, iI_add, iI_sub, iI_mul, iI_neg, iI_and, iI_or, iI_xor, iI_shl, iI_shr, iI_ushr, iI_div, iI_b, iI_c, iI_i2l, lI_l2i, lI_add, lI_sub, lI_mul, lI_neg, lI_div, lI_or, lI_and, lI_shl, lI_shr, nI_iI, lg_lt0, lg_gt0, lg_eq0, i_ne0', l_ne0', iI_lt, iI_le, iI_eq, lI_lt, lI_le, lI_eq, zb_0, zb_fit, zb_fit0, zb_fit1, i_one_zero, i_w_in, z_tb0, z_tb1, z_tb2, z_tb3, z_tb4, z_tb5, z_tb6, z_tb7, z_tb8, z_tbl, z_tu0, z_tu1, z_tu2, z_i_62, z_i_63, z_i_86, z_i_88, z_l_Y, z_ui_62, z_ui_63, z_ui_86, z_ui_88, z_ul_Y, z_sz_Y, z_sw_Y, iI_nat, z_ix_t, z_at, Int.add_zero, Int.sub_zero, Int.zero_add, Int.mul_zero, ne_eq, Bool.false_eq_true, Bool.true_eq_false, reduceCtorEq, eq_self, and_true, true_and, and_false, false_and, and_self, not_true_eq_false, not_false_eq_true, decide_true, decide_false, ↓reduceIte, Int.reduceEq, Int.reduceNe, Int.reduceLT, Int.reduceLE, Int.reduceAdd, Int.reduceSub, Int.reduceMul, Int.reduceNeg, Nat.reduceAdd, Nat.reduceEqDiff, Nat.reduceBEq, ↓z_x_eq, z_g_t, z_bI_s, z_bL_s, z_bR_s, z_bV_s, Int.cast_ofNat_Int, beq_self_eq_true, Bool.and_true, Bool.true_and, Bool.and_self, Bool.or_true, Bool.true_or, Bool.false_and, Bool.and_false, Bool.false_or, Bool.or_false, Bool.not_false, Bool.not_true, if_true, if_false, ite_true, ite_false, z_up_eq, z_up_app, z_ro_eq, k', k2']
        rfl
      · have k' : (K j = 28) = False := eq_false (by omega)
        have k2' : (K j = 29) = False := eq_false (by omega)
        rw [c]
        simp -implicitDefEqProofs (disch := first | assumption | omega | rfl | (simp only [z_up_eq, z_up_app, ↓reduceIte, Nat.reduceEqDiff]; omega)) only [z_lit0, z_lit1, z_lit2, z_litl, iI_add, iI_sub, iI_mul, iI_neg, iI_and, iI_or, iI_xor, iI_shl, iI_shr, iI_ushr, iI_div, iI_b, iI_c, iI_i2l, lI_l2i, lI_add, lI_sub, lI_mul, lI_neg, lI_div, lI_or, lI_and, lI_shl, lI_shr, nI_iI, lg_lt0, lg_gt0, lg_eq0, i_ne0', l_ne0', iI_lt, iI_le, iI_eq, lI_lt, lI_le, lI_eq, zb_0, zb_fit, zb_fit0, zb_fit1, i_one_zero, i_w_in, z_tb0, z_tb1, z_tb2, z_tb3, z_tb4, z_tb5, z_tb6, z_tb7, z_tb8, z_tbl, z_tu0, z_tu1, z_tu2, z_i_62, z_i_63, z_i_86, z_i_88, z_l_Y, z_ui_62, z_ui_63, z_ui_86, z_ui_88, z_ul_Y, z_sz_Y, z_sw_Y, iI_nat, z_ix_t, z_at, Int.add_zero, Int.sub_zero, Int.zero_add, Int.mul_zero, ne_eq, Bool.false_eq_true, Bool.true_eq_false, reduceCtorEq, eq_self, and_true, true_and, and_false, false_and, and_self, not_true_eq_false, not_false_eq_true, decide_true, decide_false, ↓reduceIte, Int.reduceEq, Int.reduceNe, Int.reduceLT, Int.reduceLE, Int.reduceAdd, Int.reduceSub, Int.reduceMul, Int.reduceNeg, Nat.reduceAdd, Nat.reduceEqDiff, Nat.reduceBEq, ↓z_x_eq, z_g_t, z_bI_s, z_bL_s, z_bR_s, z_bV_s, Int.cast_ofNat_Int, beq_self_eq_true, Bool.and_true, Bool.true_and, Bool.and_self, Bool.or_true, Bool.true_or, Bool.false_and, Bool.and_false, Bool.false_or, Bool.or_false, Bool.not_false, Bool.not_true, if_true, if_false, ite_true, ite_false, z_up_eq, z_up_app, z_ro_eq, k', k2']
        rfl
    have lw := hlw q.toNat (by omega)
    rw [show ((q.toNat : Nat) : Int) = q by omega] at lw
    by_cases so : (j_fd q cs).isSome = true
    · rw [if_pos ⟨sl, so⟩]
      refine ⟨fun z => (by cases z), fun _ => ⟨T, _, s, ?_, fX 4⟩⟩
      have rf4 := rf 4
      have r98 : 98 ≤ T.2.1 56 (8 + q.toNat) := by
        cases z : j_fd q cs with
        | none => rw [z] at so; cases so
        | some D => rw [z] at lw; have := lw.1; omega
      generalize T.2.1 56 (8 + q.toNat) = r at *
      have r9 : (r == 9) = false := beq_false_of_ne (by omega)
      have r0 : (r = 0) = False := eq_false (by omega)
      rw [b34, e_Re_readClause_34]
      simp -implicitDefEqProofs (disch := first | assumption | omega | rfl | (simp only [z_up_eq, z_up_app, ↓reduceIte, Nat.reduceEqDiff]; omega)) only [z_lit0, z_lit1, z_lit2, z_litl, iI_add, iI_sub, iI_mul, iI_neg, iI_and, iI_or, iI_xor, iI_shl, iI_shr, iI_ushr, iI_div, iI_b, iI_c, iI_i2l, lI_l2i, lI_add, lI_sub, lI_mul, lI_neg, lI_div, lI_or, lI_and, lI_shl, lI_shr, nI_iI, lg_lt0, lg_gt0, lg_eq0, i_ne0', l_ne0', iI_lt, iI_le, iI_eq, lI_lt, lI_le, lI_eq, zb_0, zb_fit, zb_fit0, zb_fit1, i_one_zero, i_w_in, z_tb0, z_tb1, z_tb2, z_tb3, z_tb4, z_tb5, z_tb6, z_tb7, z_tb8, z_tbl, z_tu0, z_tu1, z_tu2, z_i_62, z_i_63, z_i_86, z_i_88, z_l_Y, z_ui_62, z_ui_63, z_ui_86, z_ui_88, z_ul_Y, z_sz_Y, z_sw_Y, iI_nat, z_ix_t, z_at, Int.add_zero, Int.sub_zero, Int.zero_add, Int.mul_zero, ne_eq, Bool.false_eq_true, Bool.true_eq_false, reduceCtorEq, eq_self, and_true, true_and, and_false, false_and, and_self, not_true_eq_false, not_false_eq_true, decide_true, decide_false, ↓reduceIte, Int.reduceEq, Int.reduceNe, Int.reduceLT, Int.reduceLE, Int.reduceAdd, Int.reduceSub, Int.reduceMul, Int.reduceNeg, Nat.reduceAdd, Nat.reduceEqDiff, Nat.reduceBEq, ↓z_x_eq, z_g_t, z_bI_s, z_bL_s, z_bR_s, z_bV_s, Int.cast_ofNat_Int, beq_self_eq_true, Bool.and_true, Bool.true_and, Bool.and_self, Bool.or_true, Bool.true_or, Bool.false_and, Bool.and_false, Bool.false_or, Bool.or_false, Bool.not_false, Bool.not_true, if_true, if_false, ite_true, ite_false, z_up_eq, z_up_app, z_ro_eq, lo, r9, r0, rf4]
    · rw [if_neg (fun z => so z.2)]
      have sn : j_fd q cs = none := by
        cases z : j_fd q cs with
        | none => rfl
        | some D => rw [z] at so; exact absurd rfl so
      rw [sn] at lw
      have r0 : T.2.1 56 (8 + q.toNat) = 0 := lw
      rw [r0] at lo
      have z9 : ((0 : Nat) == 9) = false := rfl
      have b67 : z_call (d + 1) 71 [vr 56] (z_Y T G s) = z_w d_Re_readClause (z_call d) 67 [some (vr 56), some (vi (iI (K j))), some (vi (iI (if 3 ≤ q then 9 * (q - 3) else -1))), some (vi (iI 1)), none] [] (z_Y T G s) := by
        rw [b34, e_Re_readClause_34]
        simp -implicitDefEqProofs (disch := first | assumption | omega | rfl | (simp only [z_up_eq, z_up_app, ↓reduceIte, Nat.reduceEqDiff]; omega)) only [z_lit0, z_lit1, z_lit2, z_litl, iI_add, iI_sub, iI_mul, iI_neg, iI_and, iI_or, iI_xor, iI_shl, iI_shr, iI_ushr, iI_div, iI_b, iI_c, iI_i2l, lI_l2i, lI_add, lI_sub, lI_mul, lI_neg, lI_div, lI_or, lI_and, lI_shl, lI_shr, nI_iI, lg_lt0, lg_gt0, lg_eq0, i_ne0', l_ne0', iI_lt, iI_le, iI_eq, lI_lt, lI_le, lI_eq, zb_0, zb_fit, zb_fit0, zb_fit1, i_one_zero, i_w_in, z_tb0, z_tb1, z_tb2, z_tb3, z_tb4, z_tb5, z_tb6, z_tb7, z_tb8, z_tbl, z_tu0, z_tu1, z_tu2, z_i_62, z_i_63, z_i_86, z_i_88, z_l_Y, z_ui_62, z_ui_63, z_ui_86, z_ui_88, z_ul_Y, z_sz_Y, z_sw_Y, iI_nat, z_ix_t, z_at, Int.add_zero, Int.sub_zero, Int.zero_add, Int.mul_zero, ne_eq, Bool.false_eq_true, Bool.true_eq_false, reduceCtorEq, eq_self, and_true, true_and, and_false, false_and, and_self, not_true_eq_false, not_false_eq_true, decide_true, decide_false, ↓reduceIte, Int.reduceEq, Int.reduceNe, Int.reduceLT, Int.reduceLE, Int.reduceAdd, Int.reduceSub, Int.reduceMul, Int.reduceNeg, Nat.reduceAdd, Nat.reduceEqDiff, Nat.reduceBEq, ↓z_x_eq, z_g_t, z_bI_s, z_bL_s, z_bR_s, z_bV_s, Int.cast_ofNat_Int, beq_self_eq_true, Bool.and_true, Bool.true_and, Bool.and_self, Bool.or_true, Bool.true_or, Bool.false_and, Bool.and_false, Bool.false_or, Bool.or_false, Bool.not_false, Bool.not_true, if_true, if_false, ite_true, ite_false, z_up_eq, z_up_app, z_ro_eq, lo, z9]
      by_cases c24 : 24 ≤ cs.length
      · rw [if_pos c24]
        refine ⟨fun z => (by cases z), fun _ => ⟨T, _, s, ?_, fX 6⟩⟩
        have c' : ((cs.length : Int) < 24) = False := eq_false (by omega)
        have rf6 := rf 6
        rw [b67, e_Re_readClause_67]
        simp -implicitDefEqProofs (disch := first | assumption | omega | rfl | (simp only [z_up_eq, z_up_app, ↓reduceIte, Nat.reduceEqDiff]; omega)) only [z_lit0, z_lit1, z_lit2, z_litl, iI_add, iI_sub, iI_mul, iI_neg, iI_and, iI_or, iI_xor, iI_shl, iI_shr, iI_ushr, iI_div, iI_b, iI_c, iI_i2l, lI_l2i, lI_add, lI_sub, lI_mul, lI_neg, lI_div, lI_or, lI_and, lI_shl, lI_shr, nI_iI, lg_lt0, lg_gt0, lg_eq0, i_ne0', l_ne0', iI_lt, iI_le, iI_eq, lI_lt, lI_le, lI_eq, zb_0, zb_fit, zb_fit0, zb_fit1, i_one_zero, i_w_in, z_tb0, z_tb1, z_tb2, z_tb3, z_tb4, z_tb5, z_tb6, z_tb7, z_tb8, z_tbl, z_tu0, z_tu1, z_tu2, z_i_62, z_i_63, z_i_86, z_i_88, z_l_Y, z_ui_62, z_ui_63, z_ui_86, z_ui_88, z_ul_Y, z_sz_Y, z_sw_Y, iI_nat, z_ix_t, z_at, Int.add_zero, Int.sub_zero, Int.zero_add, Int.mul_zero, ne_eq, Bool.false_eq_true, Bool.true_eq_false, reduceCtorEq, eq_self, and_true, true_and, and_false, false_and, and_self, not_true_eq_false, not_false_eq_true, decide_true, decide_false, ↓reduceIte, Int.reduceEq, Int.reduceNe, Int.reduceLT, Int.reduceLE, Int.reduceAdd, Int.reduceSub, Int.reduceMul, Int.reduceNeg, Nat.reduceAdd, Nat.reduceEqDiff, Nat.reduceBEq, ↓z_x_eq, z_g_t, z_bI_s, z_bL_s, z_bR_s, z_bV_s, Int.cast_ofNat_Int, beq_self_eq_true, Bool.and_true, Bool.true_and, Bool.and_self, Bool.or_true, Bool.true_or, Bool.false_and, Bool.and_false, Bool.false_or, Bool.or_false, Bool.not_false, Bool.not_true, if_true, if_false, ite_true, ite_false, z_up_eq, z_up_app, z_ro_eq, g12, c', rf6]
      rw [if_neg c24, if_pos sl]
      have c' : ((cs.length : Int) < 24) = True := eq_true (by omega)
      -- the head is laid
      generalize hG1 : z_up (z_up G 56 (z_ro (z_ro (G 56) 7 (K j)) 6 0)) 60 (z_ro (G 60) ((cs.length : Int) * 4) (K j)) = G1
      have o1 : ∀ r, r ≠ 56 → r ≠ 60 → G1 r = G r := fun r a b => by rw [← hG1, z_up_ne _ _ b, z_up_ne _ _ a]
      have o56 : ∀ k, k ≠ 7 → k ≠ 6 → G1 56 k = G 56 k := fun k a b => by rw [← hG1, z_up_ne _ _ (by omega), z_up_eq, z_ro_ne _ _ b, z_ro_ne _ _ a]
      have o7 : G1 56 7 = 28 + q := by rw [← hG1, z_up_ne _ _ (by omega), z_up_eq, z_ro_ne _ _ (by omega), z_ro_eq]; exact kl
      have o6 : G1 56 6 = 0 := by rw [← hG1, z_up_ne _ _ (by omega), z_up_eq, z_ro_eq]
      have o60 : G1 60 = z_ro (G 60) ((cs.length : Int) * 4) (K j) := by rw [← hG1, z_up_eq]
      have qs : q_G G1 K V j [] = G1 := q_G_self (by rw [o56 2 (by omega) (by omega)]; exact g2) (by rw [o56 3 (by omega) (by omega)]; exact g3) (by rw [o56 4 (by omega) (by omega)]; exact g4) o6
      have hT1 : q_tk G1 K V X N := hTG G1 (o1 57 (by omega) (by omega)) (o1 58 (by omega) (by omega))
      have jl := q_lt hT hk0
      have nx := p_rnext (T := T) (s := s) (C := []) (E := d) (by omega) hT1 hk0
      rw [qs] at nx
      have law : q_rs T s G1 K V X (j_law K V (j_nm q) (decide (q = 2)) (j + 1)) [] (if K j = 30 then z_call d 68 [vr 56] (z_Y T (q_G G1 K V (j + 1) []) s) else z_call d 66 [vr 56, vi (iI 0)] (z_Y T (q_G G1 K V (j + 1) []) s)) := by
        by_cases c2 : q = 2
        · rw [if_pos (show K j = 30 by omega), decide_eq_true c2]
          exact p_either (E := d) (by omega) hT1 o7 (by omega) (j + 1) ⟨by omega, by omega⟩
        · rw [if_neg (show ¬ K j = 30 by omega), decide_eq_false c2]
          obtain ⟨d', rfl⟩ : ∃ d', d = d' + 2 := ⟨d - 2, by omega⟩
          exact p_sm (E := d') (by omega) hT1 (p_one hT1 o7 (by omega) 8 d' 0 (by omega) (by omega)) (j + 1) [] (by omega) (by show 0 ≤ j + 1; omega)
      have pg : (j_law K V (j_nm q) (decide (q = 2)) (j + 1)).1 = 0 → (j_law K V (j_nm q) (decide (q = 2)) (j + 1)).2.1 ≤ N ∧ (j_law K V (j_nm q) (decide (q = 2)) (j + 1)).2.2.length ≤ 299 := fun z => q_lawpg hT.1 hT.2.1 (by omega) z
      have pgf := q_lawj (K := K) (V := V) (nm := j_nm q) (e := decide (q = 2)) hT.1 hT.2.1 (j := j + 1) (by omega)
      generalize j_law K V (j_nm q) (decide (q = 2)) (j + 1) = x at *
      have to153 : ∀ (v : Int) (τ : ZM), (v = 0 ∨ v = 1) → (if K j = 30 then z_call d 68 [vr 56] (z_Y T (q_G G1 K V (j + 1) []) s) else z_call d 66 [vr 56, vi (iI 0)] (z_Y T (q_G G1 K V (j + 1) []) s)) = some (vi (iI v), τ) → z_call (d + 1) 71 [vr 56] (z_Y T G s) = z_w d_Re_readClause (z_call d) 153 [some (vr 56), none, none, some (vi (iI 1)), none] [vi (iI v)] τ := by
        intro v τ hv hc
        rw [b67, e_Re_readClause_67]
        by_cases k30 : K j = 30
        · have k30' : (K j = 30) = True := eq_true k30
          rw [if_pos k30] at hc
          rcases hv with hv | hv
          · rw [hv] at hc ⊢
            simp -implicitDefEqProofs (disch := first | assumption | omega | rfl | (simp only [z_up_eq, z_up_app, ↓reduceIte, Nat.reduceEqDiff]; omega)) only [z_lit0, z_lit1, z_lit2, z_litl, iI_add, iI_sub, iI_mul, iI_neg, iI_and, iI_or, iI_xor, iI_shl, iI_shr, iI_ushr, iI_div, iI_b, iI_c, iI_i2l, lI_l2i, lI_add, lI_sub, lI_mul, lI_neg, lI_div, lI_or, lI_and, lI_shl, lI_shr, nI_iI, lg_lt0, lg_gt0, lg_eq0, i_ne0', l_ne0', iI_lt, iI_le, iI_eq, lI_lt, lI_le, lI_eq, zb_0, zb_fit, zb_fit0, zb_fit1, i_one_zero, i_w_in, z_tb0, z_tb1, z_tb2, z_tb3, z_tb4, z_tb5, z_tb6, z_tb7, z_tb8, z_tbl, z_tu0, z_tu1, z_tu2, z_i_62, z_i_63, z_i_86, z_i_88, z_l_Y, z_ui_62, z_ui_63, z_ui_86, z_ui_88, z_ul_Y, z_sz_Y, z_sw_Y, iI_nat, z_ix_t, z_at, Int.add_zero, Int.sub_zero, Int.zero_add, Int.mul_zero, ne_eq, Bool.false_eq_true, Bool.true_eq_false, reduceCtorEq, eq_self, and_true, true_and, and_false, false_and, and_self, not_true_eq_false, not_false_eq_true, decide_true, decide_false, ↓reduceIte, Int.reduceEq, Int.reduceNe, Int.reduceLT, Int.reduceLE, Int.reduceAdd, Int.reduceSub, Int.reduceMul, Int.reduceNeg, Nat.reduceAdd, Nat.reduceEqDiff, Nat.reduceBEq, ↓z_x_eq, z_g_t, z_bI_s, z_bL_s, z_bR_s, z_bV_s, Int.cast_ofNat_Int, beq_self_eq_true, Bool.and_true, Bool.true_and, Bool.and_self, Bool.or_true, Bool.true_or, Bool.false_and, Bool.and_false, Bool.false_or, Bool.or_false, Bool.not_false, Bool.not_true, if_true, if_false, ite_true, ite_false, z_up_eq, z_up_app, z_ro_eq, g12, c', z_up_up, z_up_cm, hG1, nx, k30', hc]
          · rw [hv] at hc ⊢
            simp -implicitDefEqProofs (disch := first | assumption | omega | rfl | (simp only [z_up_eq, z_up_app, ↓reduceIte, Nat.reduceEqDiff]; omega)) only [z_lit0, z_lit1, z_lit2, z_litl, iI_add, iI_sub, iI_mul, iI_neg, iI_and, iI_or, iI_xor, iI_shl, iI_shr, iI_ushr, iI_div, iI_b, iI_c, iI_i2l, lI_l2i, lI_add, lI_sub, lI_mul, lI_neg, lI_div, lI_or, lI_and, lI_shl, lI_shr, nI_iI, lg_lt0, lg_gt0, lg_eq0, i_ne0', l_ne0', iI_lt, iI_le, iI_eq, lI_lt, lI_le, lI_eq, zb_0, zb_fit, zb_fit0, zb_fit1, i_one_zero, i_w_in, z_tb0, z_tb1, z_tb2, z_tb3, z_tb4, z_tb5, z_tb6, z_tb7, z_tb8, z_tbl, z_tu0, z_tu1, z_tu2, z_i_62, z_i_63, z_i_86, z_i_88, z_l_Y, z_ui_62, z_ui_63, z_ui_86, z_ui_88, z_ul_Y, z_sz_Y, z_sw_Y, iI_nat, z_ix_t, z_at, Int.add_zero, Int.sub_zero, Int.zero_add, Int.mul_zero, ne_eq, Bool.false_eq_true, Bool.true_eq_false, reduceCtorEq, eq_self, and_true, true_and, and_false, false_and, and_self, not_true_eq_false, not_false_eq_true, decide_true, decide_false, ↓reduceIte, Int.reduceEq, Int.reduceNe, Int.reduceLT, Int.reduceLE, Int.reduceAdd, Int.reduceSub, Int.reduceMul, Int.reduceNeg, Nat.reduceAdd, Nat.reduceEqDiff, Nat.reduceBEq, ↓z_x_eq, z_g_t, z_bI_s, z_bL_s, z_bR_s, z_bV_s, Int.cast_ofNat_Int, beq_self_eq_true, Bool.and_true, Bool.true_and, Bool.and_self, Bool.or_true, Bool.true_or, Bool.false_and, Bool.and_false, Bool.false_or, Bool.or_false, Bool.not_false, Bool.not_true, if_true, if_false, ite_true, ite_false, z_up_eq, z_up_app, z_ro_eq, g12, c', z_up_up, z_up_cm, hG1, nx, k30', hc]
        · have k30' : (K j = 30) = False := eq_false k30
          rw [if_neg k30] at hc
          rcases hv with hv | hv
          · rw [hv] at hc ⊢
            simp -implicitDefEqProofs (disch := first | assumption | omega | rfl | (simp only [z_up_eq, z_up_app, ↓reduceIte, Nat.reduceEqDiff]; omega)) only [z_lit0, z_lit1, z_lit2, z_litl, iI_add, iI_sub, iI_mul, iI_neg, iI_and, iI_or, iI_xor, iI_shl, iI_shr, iI_ushr, iI_div, iI_b, iI_c, iI_i2l, lI_l2i, lI_add, lI_sub, lI_mul, lI_neg, lI_div, lI_or, lI_and, lI_shl, lI_shr, nI_iI, lg_lt0, lg_gt0, lg_eq0, i_ne0', l_ne0', iI_lt, iI_le, iI_eq, lI_lt, lI_le, lI_eq, zb_0, zb_fit, zb_fit0, zb_fit1, i_one_zero, i_w_in, z_tb0, z_tb1, z_tb2, z_tb3, z_tb4, z_tb5, z_tb6, z_tb7, z_tb8, z_tbl, z_tu0, z_tu1, z_tu2, z_i_62, z_i_63, z_i_86, z_i_88, z_l_Y, z_ui_62, z_ui_63, z_ui_86, z_ui_88, z_ul_Y, z_sz_Y, z_sw_Y, iI_nat, z_ix_t, z_at, Int.add_zero, Int.sub_zero, Int.zero_add, Int.mul_zero, ne_eq, Bool.false_eq_true, Bool.true_eq_false, reduceCtorEq, eq_self, and_true, true_and, and_false, false_and, and_self, not_true_eq_false, not_false_eq_true, decide_true, decide_false, ↓reduceIte, Int.reduceEq, Int.reduceNe, Int.reduceLT, Int.reduceLE, Int.reduceAdd, Int.reduceSub, Int.reduceMul, Int.reduceNeg, Nat.reduceAdd, Nat.reduceEqDiff, Nat.reduceBEq, ↓z_x_eq, z_g_t, z_bI_s, z_bL_s, z_bR_s, z_bV_s, Int.cast_ofNat_Int, beq_self_eq_true, Bool.and_true, Bool.true_and, Bool.and_self, Bool.or_true, Bool.true_or, Bool.false_and, Bool.and_false, Bool.false_or, Bool.or_false, Bool.not_false, Bool.not_true, if_true, if_false, ite_true, ite_false, z_up_eq, z_up_app, z_ro_eq, g12, c', z_up_up, z_up_cm, hG1, nx, k30', hc]
          · rw [hv] at hc ⊢
            simp -implicitDefEqProofs (disch := first | assumption | omega | rfl | (simp only [z_up_eq, z_up_app, ↓reduceIte, Nat.reduceEqDiff]; omega)) only [z_lit0, z_lit1, z_lit2, z_litl, iI_add, iI_sub, iI_mul, iI_neg, iI_and, iI_or, iI_xor, iI_shl, iI_shr, iI_ushr, iI_div, iI_b, iI_c, iI_i2l, lI_l2i, lI_add, lI_sub, lI_mul, lI_neg, lI_div, lI_or, lI_and, lI_shl, lI_shr, nI_iI, lg_lt0, lg_gt0, lg_eq0, i_ne0', l_ne0', iI_lt, iI_le, iI_eq, lI_lt, lI_le, lI_eq, zb_0, zb_fit, zb_fit0, zb_fit1, i_one_zero, i_w_in, z_tb0, z_tb1, z_tb2, z_tb3, z_tb4, z_tb5, z_tb6, z_tb7, z_tb8, z_tbl, z_tu0, z_tu1, z_tu2, z_i_62, z_i_63, z_i_86, z_i_88, z_l_Y, z_ui_62, z_ui_63, z_ui_86, z_ui_88, z_ul_Y, z_sz_Y, z_sw_Y, iI_nat, z_ix_t, z_at, Int.add_zero, Int.sub_zero, Int.zero_add, Int.mul_zero, ne_eq, Bool.false_eq_true, Bool.true_eq_false, reduceCtorEq, eq_self, and_true, true_and, and_false, false_and, and_self, not_true_eq_false, not_false_eq_true, decide_true, decide_false, ↓reduceIte, Int.reduceEq, Int.reduceNe, Int.reduceLT, Int.reduceLE, Int.reduceAdd, Int.reduceSub, Int.reduceMul, Int.reduceNeg, Nat.reduceAdd, Nat.reduceEqDiff, Nat.reduceBEq, ↓z_x_eq, z_g_t, z_bI_s, z_bL_s, z_bR_s, z_bV_s, Int.cast_ofNat_Int, beq_self_eq_true, Bool.and_true, Bool.true_and, Bool.and_self, Bool.or_true, Bool.true_or, Bool.false_and, Bool.and_false, Bool.false_or, Bool.or_false, Bool.not_false, Bool.not_true, if_true, if_false, ite_true, ite_false, z_up_eq, z_up_app, z_ro_eq, g12, c', z_up_up, z_up_cm, hG1, nx, k30', hc]
      unfold j_sc
      by_cases xz : x.1 = 0
      · rw [if_pos xz]
        have e1 := to153 1 _ (Or.inr rfl) (law.1 xz)
        rw [List.nil_append] at e1
        have pgx := pg xz
        have l7 : q_G G1 K V x.2.1 x.2.2 56 7 = 28 + q := by rw [q_G_l]; exact o7
        obtain ⟨W, s1, e2, w2⟩ := p_keepLaw (T := T) (s := s) (E := d) (by omega) (q := q) (n := x.2.2.length) (by omega) l7 (q_G_n _ _ _ _ _) (by omega) (by omega)
        rw [show ((x.2.2.length : Int)).toNat = x.2.2.length by omega] at e2
        have m56 : (56 = T.2.2.1) = False := eq_false (by omega)
        generalize hT2 : z_ut (z_ta T 20 x.2.2.length x.2.2.length) 56 (8 + q.toNat) T.2.2.1 = T2 at *
        generalize hG3 : z_up (z_up (q_G G1 K V x.2.1 x.2.2) T.2.2.1 W) 56 (z_ro (q_G G1 K V x.2.1 x.2.2 56) 12 ((cs.length : Int) + 1)) = G3
        have p56 : ∀ k, G3 56 k = z_ro (q_G G1 K V x.2.1 x.2.2 56) 12 ((cs.length : Int) + 1) k := fun k => by rw [← hG3, z_up_eq]
        have p2 : G3 56 2 = x.2.1 := by rw [p56, z_ro_ne _ _ (by omega), q_G_at]
        have p3 : G3 56 3 = K x.2.1 := by rw [p56, z_ro_ne _ _ (by omega), q_G_k]
        have p12 : G3 56 12 = (cs.length : Int) + 1 := by rw [p56, z_ro_eq]
        have pk : ∀ k, k = 13 ∨ k = 14 ∨ k = 15 → G3 56 k = G 56 k := fun k a => by rw [p56, z_ro_ne _ _ (by omega), q_G_r _ _ (by omega), o56 k (by omega) (by omega)]
        have pm : G3 T.2.2.1 = W := by rw [← hG3, z_up_ne _ _ (by omega), z_up_eq]
        have po : ∀ r, r ≠ 56 → r ≠ 59 → r ≠ 60 → r ≠ T.2.2.1 → G3 r = G r := fun r a b c e => by rw [← hG3, z_up_ne _ _ a, z_up_ne _ _ e, q_G_o _ _ _ _ _ ⟨a, b⟩, o1 r a c]
        have p60 : G3 60 = z_ro (G 60) ((cs.length : Int) * 4) (K j) := by rw [← hG3, z_up_ne _ _ (by omega), z_up_ne _ _ (by omega), q_G_o _ _ _ _ _ (by omega)]; exact o60
        have ex := p_rexpG (T := T2) (s := s1) (E := d) (by omega) (hTG G3 (po 57 (by omega) (by omega) (by omega) (by omega)) (po 58 (by omega) (by omega) (by omega) (by omega))) p2 p3 pgx.1
        have r12 : q_G G1 K V x.2.1 x.2.2 56 12 = cs.length := by rw [q_G_c, o56 12 (by omega) (by omega)]; exact g12
        have e3 : z_call (d + 1) 71 [vr 56] (z_Y T G s) = z_bI (z_call d 60 [vr 56, vi (iI 15)] (z_Y T2 G3 s1)) (fun v7 σ6 => z_g (z_fit 1 v7) (some (vi v7, σ6))) := by
          rw [e1, e_Re_readClause_153]
          simp -implicitDefEqProofs (disch := first | assumption | omega | rfl | (simp only [z_up_eq, z_up_app, ↓reduceIte, Nat.reduceEqDiff]; omega)) only [z_lit0, z_lit1, z_lit2, z_litl, iI_add, iI_sub, iI_mul, iI_neg, iI_and, iI_or, iI_xor, iI_shl, iI_shr, iI_ushr, iI_div, iI_b, iI_c, iI_i2l, lI_l2i, lI_add, lI_sub, lI_mul, lI_neg, lI_div, lI_or, lI_and, lI_shl, lI_shr, nI_iI, lg_lt0, lg_gt0, lg_eq0, i_ne0', l_ne0', iI_lt, iI_le, iI_eq, lI_lt, lI_le, lI_eq, zb_0, zb_fit, zb_fit0, zb_fit1, i_one_zero, i_w_in, z_tb0, z_tb1, z_tb2, z_tb3, z_tb4, z_tb5, z_tb6, z_tb7, z_tb8, z_tbl, z_tu0, z_tu1, z_tu2, z_i_62, z_i_63, z_i_86, z_i_88, z_l_Y, z_ui_62, z_ui_63, z_ui_86, z_ui_88, z_ul_Y, z_sz_Y, z_sw_Y, iI_nat, z_ix_t, z_at, Int.add_zero, Int.sub_zero, Int.zero_add, Int.mul_zero, ne_eq, Bool.false_eq_true, Bool.true_eq_false, reduceCtorEq, eq_self, and_true, true_and, and_false, false_and, and_self, not_true_eq_false, not_false_eq_true, decide_true, decide_false, ↓reduceIte, Int.reduceEq, Int.reduceNe, Int.reduceLT, Int.reduceLE, Int.reduceAdd, Int.reduceSub, Int.reduceMul, Int.reduceNeg, Nat.reduceAdd, Nat.reduceEqDiff, Nat.reduceBEq, ↓z_x_eq, z_g_t, z_bI_s, z_bL_s, z_bR_s, z_bV_s, Int.cast_ofNat_Int, beq_self_eq_true, Bool.and_true, Bool.true_and, Bool.and_self, Bool.or_true, Bool.true_or, Bool.false_and, Bool.and_false, Bool.false_or, Bool.or_false, Bool.not_false, Bool.not_true, if_true, if_false, ite_true, ite_false, z_up_eq, z_up_app, z_ro_eq, e2, m56, r12, hG3]
        -- T2 beside T
        have t1 : T2.2.2.1 = T.2.2.1 + 1 := by rw [← hT2]; rfl
        have t2 : T2.2.2.2 = T.2.2.2 + x.2.2.length := by rw [← hT2]; rfl
        have t3 : ∀ r, r ≠ T.2.2.1 → T2.1 r = T.1 r := fun r a => by rw [← hT2]; exact if_neg a
        have t4 : T2.1 T.2.2.1 = (20, x.2.2.length) := by rw [← hT2]; exact if_pos rfl
        have t5 : ∀ r k, r ≠ T.2.2.1 → ¬ (r = 56 ∧ k = 8 + q.toNat) → T2.2.1 r k = T.2.1 r k := fun r k a b => by
          rw [← hT2]
          show (if r = 56 ∧ k = 8 + q.toNat then T.2.2.1 else if r = T.2.2.1 then 0 else T.2.1 r k) = _
          rw [if_neg b, if_neg a]
        have t6 : T2.2.1 56 (8 + q.toNat) = T.2.2.1 := by rw [← hT2]; exact if_pos ⟨rfl, rfl⟩
        have cl := c_n_law (cs := cs) (c := (q, [], x.2.2)) ⟨by show 0 ≤ q; omega, sl⟩ sn
        have cn3' := c_n_le (cs ++ [(q, [], x.2.2)])
        have qx : ∀ G', (∀ r, r ≠ 56 → G' r = G3 r) → q_ex T0 T2 G0 G' (c_n cs + 1) := fun G' hg => by
          refine ⟨⟨by omega, by omega⟩, by omega, fun r a => by rw [t3 r (by omega)]; exact x4 r a, fun r k a b => by rw [t5 r k (by omega) (fun z => b z.1)]; exact x5 r k a b, fun r a b c e => ?_⟩
          rw [hg r b, po r b c e (by omega)]; exact x6 r a b c e
        by_cases k15 : K x.2.1 = 15
        · rw [if_pos k15] at ex
          rw [if_pos k15]
          refine ⟨fun _ => ⟨T2, _, s1, by rw [e3, ex]; rfl, ?_⟩, fun z => absurd rfl z⟩
          generalize hG4 : z_up G3 56 (z_ro (z_ro (z_ro (G3 56) 2 ((x.2.1 : Int) + 1)) 3 (K (x.2.1 + 1))) 4 (V (x.2.1 + 1))) = G4
          have f56 : ∀ k, G4 56 k = z_ro (z_ro (z_ro (G3 56) 2 ((x.2.1 : Int) + 1)) 3 (K (x.2.1 + 1))) 4 (V (x.2.1 + 1)) k := fun k => by rw [← hG4, z_up_eq]
          have fo' : ∀ r, r ≠ 56 → G4 r = G3 r := fun r a => by rw [← hG4, z_up_ne _ _ a]
          have jl3 := q_lt hT (show K x.2.1 ≠ 0 by omega)
          refine ⟨⟨?_, ?_, ?_, ?_, ?_, ?_, ?_⟩, ?_, ?_, ?_, ?_, ?_⟩
          · rw [f56, z_ro_ne _ _ (by omega), z_ro_ne _ _ (by omega), z_ro_eq]; show (x.2.1 : Int) + 1 = ((x.2.1 + 1 : Nat) : Int); omega
          · rw [f56, z_ro_ne _ _ (by omega), z_ro_eq]
          · rw [f56, z_ro_eq]
          · rw [f56, z_ro_ne _ _ (by omega), z_ro_ne _ _ (by omega), z_ro_ne _ _ (by omega), p12, List.length_append, List.length_singleton]; omega
          · rw [f56, z_ro_ne _ _ (by omega), z_ro_ne _ _ (by omega), z_ro_ne _ _ (by omega), pk 13 (by omega)]; exact g13
          · rw [f56, z_ro_ne _ _ (by omega), z_ro_ne _ _ (by omega), z_ro_ne _ _ (by omega), pk 14 (by omega)]; exact g14
          · rw [f56, z_ro_ne _ _ (by omega), z_ro_ne _ _ (by omega), z_ro_ne _ _ (by omega), pk 15 (by omega)]; exact g15
          · rw [fo' 60 (by omega), p60]
            refine q_kl_app hkl (fun i a => z_ro_ne _ _ (by omega)) ⟨?_, by show 0 ≤ 3; omega, fun i a => absurd a (Nat.not_lt_zero _)⟩
            show z_ro (G 60) ((cs.length : Int) * 4) (K j) (4 * (cs.length : Int)) = t_kind q
            rw [show 4 * (cs.length : Int) = (cs.length : Int) * 4 by omega, z_ro_eq, ← hq]
            exact (n_so_k (K := K j) (by omega)).symm
          · intro i hi
            by_cases iq : i = q.toNat
            · have e5 : ((i : Nat) : Int) = q := by omega
              have e6 := cl.2.1
              rw [e5, iq, t6]
              show q_lw T2 G4 T0.2.2.1 T.2.2.1 (j_fd q (cs ++ [(q, [], x.2.2)]))
              rw [show j_fd q (cs ++ [(q, [], x.2.2)]) = some x.2.2 from e6]
              refine ⟨by omega, by omega, t4, pgx.2, fun k a => ?_⟩
              rw [fo' _ (by omega), pm, w2 k (by omega) (by omega), q_G_59]
              unfold q_cd
              rw [if_pos (by omega)]; rfl
            · rw [t5 56 _ (by omega) (fun z => by omega), cl.2.2 i (by show (i : Int) ≠ q; omega)]
              have l0 := hlw i hi
              generalize T.2.1 56 (8 + i) = r at *
              cases z : j_fd (i : Int) cs with
              | none => rw [z] at l0; exact l0
              | some D =>
                rw [z] at l0
                obtain ⟨l1, l2, l3, l4, l5⟩ := l0
                refine ⟨l1, by omega, by rw [t3 r (by omega)]; exact l3, l4, fun k a => ?_⟩
                rw [fo' _ (by omega), po r (by omega) (by omega) (by omega) (by omega)]; exact l5 k a
          · rw [cl.1]; exact qx G4 fo'
          · rw [List.length_append, List.length_singleton]; omega
          · show x.2.1 + 1 ≤ N; omega
        · rw [if_neg k15] at ex
          rw [if_neg k15]
          refine ⟨fun z => (by cases z), fun _ => ⟨T2, _, s1, by rw [e3, ex]; rfl, ?_⟩⟩
          have q3 := qx (q_F G3 1 (X x.2.1)) (fun r a => by unfold q_F; rw [z_up_ne _ _ a])
          have cle : c_n cs + 1 ≤ 3 := by rw [← cl.1]; exact cn3'
          refine ⟨?_, ?_, ?_, ⟨⟨q3.1.1, Nat.le_trans q3.1.2 (Nat.add_le_add_left cle _)⟩, Nat.le_trans q3.2.1 (Nat.add_le_add_left (Nat.mul_le_mul_left 299 cle) _), q3.2.2.1, q3.2.2.2.1, q3.2.2.2.2⟩⟩
          · unfold q_F; rw [z_up_eq, z_ro_ne _ _ (by omega), z_ro_ne _ _ (by omega), pk 13 (by omega)]; exact g13
          · unfold q_F; rw [z_up_eq, z_ro_ne _ _ (by omega), z_ro_eq]
          · unfold q_F; rw [z_up_eq, z_ro_eq]
      · rw [if_neg xz]
        obtain ⟨C', eC⟩ := law.2 xz
        have e1 := to153 0 _ (Or.inl rfl) eC
        refine ⟨fun z => absurd z xz, fun _ => ⟨T, _, s, by rw [e1, e_Re_readClause_153]; rfl, ?_⟩⟩
        unfold q_F
        refine ⟨?_, ?_, ?_, ⟨x1, by omega⟩, by omega, x4, x5, fun r a b c e => ?_⟩
        · rw [z_up_eq, z_ro_ne _ _ (by omega), z_ro_ne _ _ (by omega), q_G_r _ _ (by omega), o56 13 (by omega) (by omega)]; exact g13
        · rw [z_up_eq, z_ro_ne _ _ (by omega), z_ro_eq]
        · rw [z_up_eq, z_ro_eq]
        · rw [z_up_ne _ _ b, q_G_o _ _ _ _ _ ⟨b, c⟩, o1 r b e]; exact x6 r a b c e
  · -- numbers
    rw [if_neg (fun z => sl z.1)]
    have k28 : (K j = 28) = False := eq_false (by omega)
    have k29 : (K j = 29) = False := eq_false (by omega)
    have k30 : (K j = 30) = False := eq_false (by omega)
    rw [show (if 3 ≤ n_so (K j) then 9 * (n_so (K j) - 3) else -1) = 9 * (n_so (K j) - 3) from if_pos (by omega)] at fo
    have kk := n_so_k (K := K j) (by omega)
    generalize hq : n_so (K j) = q at *
    have f0 : (9 * (q - 3) < 0) = False := eq_false (by omega)
    have b67 : z_call (d + 1) 71 [vr 56] (z_Y T G s) = z_w d_Re_readClause (z_call d) 67 [some (vr 56), some (vi (iI (K j))), some (vi (iI (9 * (q - 3)))), some (vi (iI 0)), none] [] (z_Y T G s) := by
      rw [e_Re_readClause]
      simp -implicitDefEqProofs (disch := first | assumption | omega | rfl | (simp only [z_up_eq, z_up_app, ↓reduceIte, Nat.reduceEqDiff]; omega)) only [z_lit0, z_lit1, z_lit2, z_litl, iI_add, iI_sub, iI_mul, iI_neg, iI_and, iI_or, iI_xor, iI_shl, iI_shr, iI_ushr, iI_div, iI_b, iI_c, iI_i2l, lI_l2i, lI_add, lI_sub, lI_mul, lI_neg, lI_div, lI_or, lI_and, lI_shl, lI_shr, nI_iI, lg_lt0, lg_gt0, lg_eq0, i_ne0', l_ne0', iI_lt, iI_le, iI_eq, lI_lt, lI_le, lI_eq, zb_0, zb_fit, zb_fit0, zb_fit1, i_one_zero, i_w_in, z_tb0, z_tb1, z_tb2, z_tb3, z_tb4, z_tb5, z_tb6, z_tb7, z_tb8, z_tbl, z_tu0, z_tu1, z_tu2, z_i_62, z_i_63, z_i_86, z_i_88, z_l_Y, z_ui_62, z_ui_63, z_ui_86, z_ui_88, z_ul_Y, z_sz_Y, z_sw_Y, iI_nat, z_ix_t, z_at, Int.add_zero, Int.sub_zero, Int.zero_add, Int.mul_zero, ne_eq, Bool.false_eq_true, Bool.true_eq_false, reduceCtorEq, eq_self, and_true, true_and, and_false, false_and, and_self, not_true_eq_false, not_false_eq_true, decide_true, decide_false, ↓reduceIte, Int.reduceEq, Int.reduceNe, Int.reduceLT, Int.reduceLE, Int.reduceAdd, Int.reduceSub, Int.reduceMul, Int.reduceNeg, Nat.reduceAdd, Nat.reduceEqDiff, Nat.reduceBEq, ↓z_x_eq, z_g_t, z_bI_s, z_bL_s, z_bR_s, z_bV_s, Int.cast_ofNat_Int, beq_self_eq_true, Bool.and_true, Bool.true_and, Bool.and_self, Bool.or_true, Bool.true_or, Bool.false_and, Bool.and_false, Bool.false_or, Bool.or_false, Bool.not_false, Bool.not_true, if_true, if_false, ite_true, ite_false, z_up_eq, z_up_app, z_ro_eq, g3, fo, k28, k29, k30]
      rw [e_Re_readClause_34]
      simp -implicitDefEqProofs (disch := first | assumption | omega | rfl | (simp only [z_up_eq, z_up_app, ↓reduceIte, Nat.reduceEqDiff]; omega)) only [z_lit0, z_lit1, z_lit2, z_litl, iI_add, iI_sub, iI_mul, iI_neg, iI_and, iI_or, iI_xor, iI_shl, iI_shr, iI_ushr, iI_div, iI_b, iI_c, iI_i2l, lI_l2i, lI_add, lI_sub, lI_mul, lI_neg, lI_div, lI_or, lI_and, lI_shl, lI_shr, nI_iI, lg_lt0, lg_gt0, lg_eq0, i_ne0', l_ne0', iI_lt, iI_le, iI_eq, lI_lt, lI_le, lI_eq, zb_0, zb_fit, zb_fit0, zb_fit1, i_one_zero, i_w_in, z_tb0, z_tb1, z_tb2, z_tb3, z_tb4, z_tb5, z_tb6, z_tb7, z_tb8, z_tbl, z_tu0, z_tu1, z_tu2, z_i_62, z_i_63, z_i_86, z_i_88, z_l_Y, z_ui_62, z_ui_63, z_ui_86, z_ui_88, z_ul_Y, z_sz_Y, z_sw_Y, iI_nat, z_ix_t, z_at, Int.add_zero, Int.sub_zero, Int.zero_add, Int.mul_zero, ne_eq, Bool.false_eq_true, Bool.true_eq_false, reduceCtorEq, eq_self, and_true, true_and, and_false, false_and, and_self, not_true_eq_false, not_false_eq_true, decide_true, decide_false, ↓reduceIte, Int.reduceEq, Int.reduceNe, Int.reduceLT, Int.reduceLE, Int.reduceAdd, Int.reduceSub, Int.reduceMul, Int.reduceNeg, Nat.reduceAdd, Nat.reduceEqDiff, Nat.reduceBEq, ↓z_x_eq, z_g_t, z_bI_s, z_bL_s, z_bR_s, z_bV_s, Int.cast_ofNat_Int, beq_self_eq_true, Bool.and_true, Bool.true_and, Bool.and_self, Bool.or_true, Bool.true_or, Bool.false_and, Bool.and_false, Bool.false_or, Bool.or_false, Bool.not_false, Bool.not_true, if_true, if_false, ite_true, ite_false, z_up_eq, z_up_app, z_ro_eq, f0]
    by_cases c24 : 24 ≤ cs.length
    · rw [if_pos c24]
      refine ⟨fun z => (by cases z), fun _ => ⟨T, _, s, ?_, fX 6⟩⟩
      have c' : ((cs.length : Int) < 24) = False := eq_false (by omega)
      have rf6 := rf 6
      rw [b67, e_Re_readClause_67]
      simp -implicitDefEqProofs (disch := first | assumption | omega | rfl | (simp only [z_up_eq, z_up_app, ↓reduceIte, Nat.reduceEqDiff]; omega)) only [z_lit0, z_lit1, z_lit2, z_litl, iI_add, iI_sub, iI_mul, iI_neg, iI_and, iI_or, iI_xor, iI_shl, iI_shr, iI_ushr, iI_div, iI_b, iI_c, iI_i2l, lI_l2i, lI_add, lI_sub, lI_mul, lI_neg, lI_div, lI_or, lI_and, lI_shl, lI_shr, nI_iI, lg_lt0, lg_gt0, lg_eq0, i_ne0', l_ne0', iI_lt, iI_le, iI_eq, lI_lt, lI_le, lI_eq, zb_0, zb_fit, zb_fit0, zb_fit1, i_one_zero, i_w_in, z_tb0, z_tb1, z_tb2, z_tb3, z_tb4, z_tb5, z_tb6, z_tb7, z_tb8, z_tbl, z_tu0, z_tu1, z_tu2, z_i_62, z_i_63, z_i_86, z_i_88, z_l_Y, z_ui_62, z_ui_63, z_ui_86, z_ui_88, z_ul_Y, z_sz_Y, z_sw_Y, iI_nat, z_ix_t, z_at, Int.add_zero, Int.sub_zero, Int.zero_add, Int.mul_zero, ne_eq, Bool.false_eq_true, Bool.true_eq_false, reduceCtorEq, eq_self, and_true, true_and, and_false, false_and, and_self, not_true_eq_false, not_false_eq_true, decide_true, decide_false, ↓reduceIte, Int.reduceEq, Int.reduceNe, Int.reduceLT, Int.reduceLE, Int.reduceAdd, Int.reduceSub, Int.reduceMul, Int.reduceNeg, Nat.reduceAdd, Nat.reduceEqDiff, Nat.reduceBEq, ↓z_x_eq, z_g_t, z_bI_s, z_bL_s, z_bR_s, z_bV_s, Int.cast_ofNat_Int, beq_self_eq_true, Bool.and_true, Bool.true_and, Bool.and_self, Bool.or_true, Bool.true_or, Bool.false_and, Bool.and_false, Bool.false_or, Bool.or_false, Bool.not_false, Bool.not_true, if_true, if_false, ite_true, ite_false, z_up_eq, z_up_app, z_ro_eq, g12, c', rf6]
    rw [if_neg c24, if_neg sl]
    have c' : ((cs.length : Int) < 24) = True := eq_true (by omega)
    generalize hG1 : z_up (z_up G 56 (z_ro (z_ro (G 56) 7 (K j)) 6 0)) 60 (z_ro (G 60) ((cs.length : Int) * 4) (K j)) = G1
    have o1 : ∀ r, r ≠ 56 → r ≠ 60 → G1 r = G r := fun r a b => by rw [← hG1, z_up_ne _ _ b, z_up_ne _ _ a]
    have o56 : ∀ k, k ≠ 7 → k ≠ 6 → G1 56 k = G 56 k := fun k a b => by rw [← hG1, z_up_ne _ _ (by omega), z_up_eq, z_ro_ne _ _ b, z_ro_ne _ _ a]
    have o6 : G1 56 6 = 0 := by rw [← hG1, z_up_ne _ _ (by omega), z_up_eq, z_ro_eq]
    have o60 : G1 60 = z_ro (G 60) ((cs.length : Int) * 4) (K j) := by rw [← hG1, z_up_eq]
    have qs : q_G G1 K V j [] = G1 := q_G_self (by rw [o56 2 (by omega) (by omega)]; exact g2) (by rw [o56 3 (by omega) (by omega)]; exact g3) (by rw [o56 4 (by omega) (by omega)]; exact g4) o6
    have hT1 : q_tk G1 K V X N := hTG G1 (o1 57 (by omega) (by omega)) (o1 58 (by omega) (by omega))
    have o12 : G1 56 12 = cs.length := by rw [o56 12 (by omega) (by omega)]; exact g12
    have fa := f_at_fm (G := G1) (fun j a b => by rw [o1 2 (by omega) (by omega)]; exact hS' j a b) (q := q) (by omega)
    obtain ⟨d', rfl⟩ : ∃ d', d = d' + 1 := ⟨d - 1, by omega⟩
    have nu := p_nums (T := T) (s := s) (E := d') (by omega) hT1 (f := 9 * (q - 3)) (by omega) (j_fm q) (9 * (q - 3)) ((cs.length : Int) * 4 + 1) j (G1 60) fa.1 (by omega) (by omega) (by omega) (by omega) hjN
    rw [z_up_id, qs] at nu
    generalize j_nums K V (j_fm q) j = y at *
    have to153 : ∀ (v : Int) (τ : ZM), z_w d_Re_readNumbers (z_call d') 11 [some (vr 56), some (vi (iI (9 * (q - 3)))), some (vi (iI ((cs.length : Int) * 4 + 1))), some (vi (iI (9 * (q - 3))))] [] (z_Y T G1 s) = some (vi (iI v), τ) → z_call (d' + 1 + 1) 71 [vr 56] (z_Y T G s) = z_w d_Re_readClause (z_call (d' + 1)) 153 [some (vr 56), none, none, some (vi (iI 0)), none] [vi (iI v)] τ := by
      intro v τ hc
      have hc' : z_call (d' + 1) 61 [vr 56, vi (iI (9 * (q - 3)))] (z_Y T G1 s) = some (vi (iI v), τ) := by
        rw [e_Re_readNumbers]
        simp -implicitDefEqProofs (disch := first | assumption | omega | rfl | (simp only [z_up_eq, z_up_app, ↓reduceIte, Nat.reduceEqDiff]; omega)) only [z_lit0, z_lit1, z_lit2, z_litl, iI_add, iI_sub, iI_mul, iI_neg, iI_and, iI_or, iI_xor, iI_shl, iI_shr, iI_ushr, iI_div, iI_b, iI_c, iI_i2l, lI_l2i, lI_add, lI_sub, lI_mul, lI_neg, lI_div, lI_or, lI_and, lI_shl, lI_shr, nI_iI, lg_lt0, lg_gt0, lg_eq0, i_ne0', l_ne0', iI_lt, iI_le, iI_eq, lI_lt, lI_le, lI_eq, zb_0, zb_fit, zb_fit0, zb_fit1, i_one_zero, i_w_in, z_tb0, z_tb1, z_tb2, z_tb3, z_tb4, z_tb5, z_tb6, z_tb7, z_tb8, z_tbl, z_tu0, z_tu1, z_tu2, z_i_62, z_i_63, z_i_86, z_i_88, z_l_Y, z_ui_62, z_ui_63, z_ui_86, z_ui_88, z_ul_Y, z_sz_Y, z_sw_Y, iI_nat, z_ix_t, z_at, Int.add_zero, Int.sub_zero, Int.zero_add, Int.mul_zero, ne_eq, Bool.false_eq_true, Bool.true_eq_false, reduceCtorEq, eq_self, and_true, true_and, and_false, false_and, and_self, not_true_eq_false, not_false_eq_true, decide_true, decide_false, ↓reduceIte, Int.reduceEq, Int.reduceNe, Int.reduceLT, Int.reduceLE, Int.reduceAdd, Int.reduceSub, Int.reduceMul, Int.reduceNeg, Nat.reduceAdd, Nat.reduceEqDiff, Nat.reduceBEq, ↓z_x_eq, z_g_t, z_bI_s, z_bL_s, z_bR_s, z_bV_s, Int.cast_ofNat_Int, beq_self_eq_true, Bool.and_true, Bool.true_and, Bool.and_self, Bool.or_true, Bool.true_or, Bool.false_and, Bool.and_false, Bool.false_or, Bool.or_false, Bool.not_false, Bool.not_true, if_true, if_false, ite_true, ite_false, z_up_eq, z_up_app, z_ro_eq, o12, hc]
      rw [b67, e_Re_readClause_67]
      simp -implicitDefEqProofs (disch := first | assumption | omega | rfl | (simp only [z_up_eq, z_up_app, ↓reduceIte, Nat.reduceEqDiff]; omega)) only [z_lit0, z_lit1, z_lit2, z_litl, iI_add, iI_sub, iI_mul, iI_neg, iI_and, iI_or, iI_xor, iI_shl, iI_shr, iI_ushr, iI_div, iI_b, iI_c, iI_i2l, lI_l2i, lI_add, lI_sub, lI_mul, lI_neg, lI_div, lI_or, lI_and, lI_shl, lI_shr, nI_iI, lg_lt0, lg_gt0, lg_eq0, i_ne0', l_ne0', iI_lt, iI_le, iI_eq, lI_lt, lI_le, lI_eq, zb_0, zb_fit, zb_fit0, zb_fit1, i_one_zero, i_w_in, z_tb0, z_tb1, z_tb2, z_tb3, z_tb4, z_tb5, z_tb6, z_tb7, z_tb8, z_tbl, z_tu0, z_tu1, z_tu2, z_i_62, z_i_63, z_i_86, z_i_88, z_l_Y, z_ui_62, z_ui_63, z_ui_86, z_ui_88, z_ul_Y, z_sz_Y, z_sw_Y, iI_nat, z_ix_t, z_at, Int.add_zero, Int.sub_zero, Int.zero_add, Int.mul_zero, ne_eq, Bool.false_eq_true, Bool.true_eq_false, reduceCtorEq, eq_self, and_true, true_and, and_false, false_and, and_self, not_true_eq_false, not_false_eq_true, decide_true, decide_false, ↓reduceIte, Int.reduceEq, Int.reduceNe, Int.reduceLT, Int.reduceLE, Int.reduceAdd, Int.reduceSub, Int.reduceMul, Int.reduceNeg, Nat.reduceAdd, Nat.reduceEqDiff, Nat.reduceBEq, ↓z_x_eq, z_g_t, z_bI_s, z_bL_s, z_bR_s, z_bV_s, Int.cast_ofNat_Int, beq_self_eq_true, Bool.and_true, Bool.true_and, Bool.and_self, Bool.or_true, Bool.true_or, Bool.false_and, Bool.and_false, Bool.false_or, Bool.or_false, Bool.not_false, Bool.not_true, if_true, if_false, ite_true, ite_false, z_up_eq, z_up_app, z_ro_eq, g12, c', z_up_up, z_up_cm, hG1, hc']
    unfold j_sc
    by_cases yz : y.1 = 0
    · rw [if_pos yz]
      obtain ⟨A', e0, yN, ya, yl, yv⟩ := nu.1 yz
      have e1 := to153 1 _ e0
      generalize hG3 : z_up (q_G (z_up G1 60 A') K V y.2.1 []) 56 (z_ro (q_G (z_up G1 60 A') K V y.2.1 [] 56) 12 ((cs.length : Int) + 1)) = G3
      have g56 : (z_up G1 60 A') 56 = G1 56 := z_up_ne _ _ (by omega)
      have p56 : ∀ k, G3 56 k = z_ro (q_G (z_up G1 60 A') K V y.2.1 [] 56) 12 ((cs.length : Int) + 1) k := fun k => by rw [← hG3, z_up_eq]
      have p2 : G3 56 2 = y.2.1 := by rw [p56, z_ro_ne _ _ (by omega), q_G_at]
      have p3 : G3 56 3 = K y.2.1 := by rw [p56, z_ro_ne _ _ (by omega), q_G_k]
      have p12 : G3 56 12 = (cs.length : Int) + 1 := by rw [p56, z_ro_eq]
      have pk : ∀ k, k = 13 ∨ k = 14 ∨ k = 15 → G3 56 k = G 56 k := fun k a => by rw [p56, z_ro_ne _ _ (by omega), q_G_r _ _ (by omega), g56, o56 k (by omega) (by omega)]
      have po : ∀ r, r ≠ 56 → r ≠ 59 → r ≠ 60 → G3 r = G r := fun r a b c => by rw [← hG3, z_up_ne _ _ a, q_G_o _ _ _ _ _ ⟨a, b⟩, z_up_ne _ _ c, o1 r a c]
      have p60 : G3 60 = A' := by rw [← hG3, z_up_ne _ _ (by omega), q_G_o _ _ _ _ _ (by omega), z_up_eq]
      have ex := p_rexpG (T := T) (s := s) (E := d' + 1) (by omega) (hTG G3 (po 57 (by omega) (by omega) (by omega)) (po 58 (by omega) (by omega) (by omega))) p2 p3 yN
      have r12 : q_G (z_up G1 60 A') K V y.2.1 [] 56 12 = cs.length := by rw [q_G_c, g56]; exact o12
      have e3 : z_call (d' + 1 + 1) 71 [vr 56] (z_Y T G s) = z_bI (z_call (d' + 1) 60 [vr 56, vi (iI 15)] (z_Y T G3 s)) (fun v7 σ6 => z_g (z_fit 1 v7) (some (vi v7, σ6))) := by
        rw [e1, e_Re_readClause_153]
        simp -implicitDefEqProofs (disch := first | assumption | omega | rfl | (simp only [z_up_eq, z_up_app, ↓reduceIte, Nat.reduceEqDiff]; omega)) only [z_lit0, z_lit1, z_lit2, z_litl, iI_add, iI_sub, iI_mul, iI_neg, iI_and, iI_or, iI_xor, iI_shl, iI_shr, iI_ushr, iI_div, iI_b, iI_c, iI_i2l, lI_l2i, lI_add, lI_sub, lI_mul, lI_neg, lI_div, lI_or, lI_and, lI_shl, lI_shr, nI_iI, lg_lt0, lg_gt0, lg_eq0, i_ne0', l_ne0', iI_lt, iI_le, iI_eq, lI_lt, lI_le, lI_eq, zb_0, zb_fit, zb_fit0, zb_fit1, i_one_zero, i_w_in, z_tb0, z_tb1, z_tb2, z_tb3, z_tb4, z_tb5, z_tb6, z_tb7, z_tb8, z_tbl, z_tu0, z_tu1, z_tu2, z_i_62, z_i_63, z_i_86, z_i_88, z_l_Y, z_ui_62, z_ui_63, z_ui_86, z_ui_88, z_ul_Y, z_sz_Y, z_sw_Y, iI_nat, z_ix_t, z_at, Int.add_zero, Int.sub_zero, Int.zero_add, Int.mul_zero, ne_eq, Bool.false_eq_true, Bool.true_eq_false, reduceCtorEq, eq_self, and_true, true_and, and_false, false_and, and_self, not_true_eq_false, not_false_eq_true, decide_true, decide_false, ↓reduceIte, Int.reduceEq, Int.reduceNe, Int.reduceLT, Int.reduceLE, Int.reduceAdd, Int.reduceSub, Int.reduceMul, Int.reduceNeg, Nat.reduceAdd, Nat.reduceEqDiff, Nat.reduceBEq, ↓z_x_eq, z_g_t, z_bI_s, z_bL_s, z_bR_s, z_bV_s, Int.cast_ofNat_Int, beq_self_eq_true, Bool.and_true, Bool.true_and, Bool.and_self, Bool.or_true, Bool.true_or, Bool.false_and, Bool.and_false, Bool.false_or, Bool.or_false, Bool.not_false, Bool.not_true, if_true, if_false, ite_true, ite_false, z_up_eq, z_up_app, z_ro_eq, r12, hG3]
      have ca := c_n_app (cs := cs) (c := (q, y.2.2, [])) (by show 3 ≤ q; omega)
      have qx : ∀ G', (∀ r, r ≠ 56 → G' r = G3 r) → q_ex T0 T G0 G' (c_n cs) := fun G' hg => by
        refine ⟨⟨x1, x2⟩, x3, x4, x5, fun r a b c e => ?_⟩
        rw [hg r b, po r b c e]; exact x6 r a b c e
      by_cases k15 : K y.2.1 = 15
      · rw [if_pos k15] at ex
        rw [if_pos k15]
        refine ⟨fun _ => ⟨T, _, s, by rw [e3, ex]; rfl, ?_⟩, fun z => absurd rfl z⟩
        generalize hG4 : z_up G3 56 (z_ro (z_ro (z_ro (G3 56) 2 ((y.2.1 : Int) + 1)) 3 (K (y.2.1 + 1))) 4 (V (y.2.1 + 1))) = G4
        have f56 : ∀ k, G4 56 k = z_ro (z_ro (z_ro (G3 56) 2 ((y.2.1 : Int) + 1)) 3 (K (y.2.1 + 1))) 4 (V (y.2.1 + 1)) k := fun k => by rw [← hG4, z_up_eq]
        have fo' : ∀ r, r ≠ 56 → G4 r = G3 r := fun r a => by rw [← hG4, z_up_ne _ _ a]
        have jl3 := q_lt hT (show K y.2.1 ≠ 0 by omega)
        refine ⟨⟨?_, ?_, ?_, ?_, ?_, ?_, ?_⟩, ?_, ?_, ?_, ?_, ?_⟩
        · rw [f56, z_ro_ne _ _ (by omega), z_ro_ne _ _ (by omega), z_ro_eq]; show (y.2.1 : Int) + 1 = ((y.2.1 + 1 : Nat) : Int); omega
        · rw [f56, z_ro_ne _ _ (by omega), z_ro_eq]
        · rw [f56, z_ro_eq]
        · rw [f56, z_ro_ne _ _ (by omega), z_ro_ne _ _ (by omega), z_ro_ne _ _ (by omega), p12, List.length_append, List.length_singleton]; omega
        · rw [f56, z_ro_ne _ _ (by omega), z_ro_ne _ _ (by omega), z_ro_ne _ _ (by omega), pk 13 (by omega)]; exact g13
        · rw [f56, z_ro_ne _ _ (by omega), z_ro_ne _ _ (by omega), z_ro_ne _ _ (by omega), pk 14 (by omega)]; exact g14
        · rw [f56, z_ro_ne _ _ (by omega), z_ro_ne _ _ (by omega), z_ro_ne _ _ (by omega), pk 15 (by omega)]; exact g15
        · rw [fo' 60 (by omega), p60]
          refine q_kl_app hkl (fun i a => by rw [ya i (by omega), o60, z_ro_ne _ _ (by omega)]) ⟨?_, by show y.2.2.length ≤ 3; omega, fun i a => ?_⟩
          · show A' (4 * (cs.length : Int)) = t_kind q
            rw [ya _ (by omega), o60, show 4 * (cs.length : Int) = (cs.length : Int) * 4 by omega, z_ro_eq]
            exact kk.symm
          · have a' : i < y.2.2.length := a
            show A' (4 * (cs.length : Int) + 1 + i) = y.2.2.getD i 0
            rw [show 4 * (cs.length : Int) + 1 + i = (cs.length : Int) * 4 + 1 + i by omega]
            exact yv i (by omega)
        · intro i hi
          rw [ca.2 i (by omega)]
          have l0 := hlw i hi
          generalize T.2.1 56 (8 + i) = r at *
          cases z : j_fd (i : Int) cs with
          | none => rw [z] at l0; exact l0
          | some D =>
            rw [z] at l0
            obtain ⟨l1, l2, l3, l4, l5⟩ := l0
            refine ⟨l1, l2, l3, l4, fun k a => ?_⟩
            rw [fo' _ (by omega), po r (by omega) (by omega) (by omega)]; exact l5 k a
        · rw [ca.1]; exact qx G4 fo'
        · rw [List.length_append, List.length_singleton]; omega
        · show y.2.1 + 1 ≤ N; omega
      · rw [if_neg k15] at ex
        rw [if_neg k15]
        refine ⟨fun z => (by cases z), fun _ => ⟨T, _, s, by rw [e3, ex]; rfl, ?_⟩⟩
        have q3 := qx (q_F G3 1 (X y.2.1)) (fun r a => by unfold q_F; rw [z_up_ne _ _ a])
        refine ⟨?_, ?_, ?_, ⟨⟨q3.1.1, by have := q3.1.2; omega⟩, by have := q3.2.1; omega, q3.2.2.1, q3.2.2.2.1, q3.2.2.2.2⟩⟩
        · unfold q_F; rw [z_up_eq, z_ro_ne _ _ (by omega), z_ro_ne _ _ (by omega), pk 13 (by omega)]; exact g13
        · unfold q_F; rw [z_up_eq, z_ro_ne _ _ (by omega), z_ro_eq]
        · unfold q_F; rw [z_up_eq, z_ro_eq]
    · rw [if_neg yz]
      obtain ⟨A', e0, y1, y2, y3⟩ := nu.2 yz
      have e1 := to153 0 _ e0
      have g56 : (z_up G1 60 A') 56 = G1 56 := z_up_ne _ _ (by omega)
      refine ⟨fun z => absurd z yz, fun _ => ⟨T, _, s, by rw [e1, e_Re_readClause_153]; rfl, ?_⟩⟩
      unfold q_F
      refine ⟨?_, ?_, ?_, ⟨x1, by omega⟩, by omega, x4, x5, fun r a b c e => ?_⟩
      · rw [z_up_eq, z_ro_ne _ _ (by omega), z_ro_ne _ _ (by omega), q_G_r _ _ (by omega), g56, o56 13 (by omega) (by omega)]; exact g13
      · rw [z_up_eq, z_ro_ne _ _ (by omega), z_ro_eq]
      · rw [z_up_eq, z_ro_eq]
      · rw [z_up_ne _ _ b, q_G_o _ _ _ _ _ ⟨b, c⟩, z_up_ne _ _ e, o1 r b e]; exact x6 r a b c e
end

/-! THE PURE PART, 65: a duel, the model's tables -/
def s_cn (A : Int → Int) (bl : Int) : Int := (s_ly (s_sd A bl) 0 (A 1).toNat 0 0 (fun _ => 0)).1
def s_li (A : Int → Int) (bl k : Int) : Int := (s_ly (s_sd A bl) 0 (A 1).toNat 0 0 (fun _ => 0)).2 (0 + k)
theorem s_cn_in (A : Int → Int) (bl : Int) : 0 ≤ s_cn A bl ∧ s_cn A bl ≤ 5 := by
  have := s_ly_in (s_sd A bl) 0 (A 1).toNat 0 0 (fun _ => 0) (by omega)
  unfold s_cn
  omega
theorem s_li_el {A : Int → Int} (hM : m_ok A) (bl : Int) : (∀ k, 0 ≤ k → k < s_cn A bl → 0 ≤ s_li A bl k ∧ s_li A bl k < A 1 ∧ s_sd A bl (s_li A bl k) = true) ∧ ∀ k k', 0 ≤ k → k < k' → k' < s_cn A bl → s_li A bl k < s_li A bl k' := by
  have m1 := hM.2.1
  have := s_ly_el (s_sd A bl) 0 (A 1).toNat 0 0 (fun _ => 0) (fun k a b => by omega) (fun k k' a b c => by omega) (by omega) (by omega)
  refine ⟨fun k a b => ?_, this.2⟩
  have q := this.1 k a b
  exact ⟨q.1, by have := q.2.1; unfold s_li; omega, q.2.2⟩
theorem p_laySides (d : Nat) (T : ZT) (G : ZG) (s : ZG × ZG) {b1 b2 : Int} (hM : m_ok (G 81)) (hb : i_in b1 ∧ i_in b2) : ∃ R80 D, z_call (d + 2) 291 [vr 80, vi (iI b1), vi (iI b2)] (z_Y T G s) = some (vi (iI 0), z_Y T (z_up (z_up G 80 R80) 94 D) s) ∧ R80 37 = s_cn (G 81) b1 + s_cn (G 81) b2 ∧ R80 36 = s_cn (G 81) b1 ∧ (∀ k, k ≠ 36 → k ≠ 37 → R80 k = G 80 k) ∧ (∀ k, 0 ≤ k → k < s_cn (G 81) b1 → D k = s_li (G 81) b1 k) ∧ ∀ k, 0 ≤ k → k < s_cn (G 81) b2 → D (s_cn (G 81) b1 + k) = s_li (G 81) b2 k := by
  have m1 := hM.2.1
  have e1 := p_ls_18 d T G s (b1 := b1) (b2 := b2) (t := 0) hM hb (Or.inl rfl) (o := 0) (by omega) (G 81 1).toNat 0 0 (G 94) (by omega) (by omega) (by omega) (by omega)
  rw [show (if (0 : Int) = 0 then b1 else b2) = b1 from if_pos rfl, if_pos rfl] at e1
  have c1 : (s_ly (s_sd (G 81) b1) 0 (G 81 1).toNat 0 0 (G 94)).1 = s_cn (G 81) b1 := s_ly_c _ _ _ _ _ _ _ _
  have a1 := s_ly_ag (s_sd (G 81) b1) 0 0 (G 81 1).toNat 0 0 (G 94) (fun _ => 0) (fun k a b => by omega)
  rw [c1] at e1 a1
  have f5 := s_cn_in (G 81) b1
  generalize (s_ly (s_sd (G 81) b1) 0 (G 81 1).toNat 0 0 (G 94)).2 = W1 at *
  have e2 := p_ls_18 d T (z_up G 80 (z_ro (z_ro (G 80) 37 (0 + s_cn (G 81) b1)) 36 (s_cn (G 81) b1))) s (b1 := b1) (b2 := b2) (t := 1) (by rw [z_up_ne _ _ (by omega)]; exact hM) hb (Or.inr rfl) (o := s_cn (G 81) b1) f5 (G 81 1).toNat 0 0 W1 (by omega) (by rw [z_up_ne _ _ (by omega)]; omega) (by omega) (by omega)
  rw [z_up_eq, z_up_up, z_up_ne _ _ (show 81 ≠ 80 by omega), show (if (1 : Int) = 0 then b1 else b2) = b2 from if_neg (by omega), show (if (1 : Int) = 0 then z_ro (z_ro (z_ro (z_ro (G 80) 37 (0 + s_cn (G 81) b1)) 36 (s_cn (G 81) b1)) 37 (s_cn (G 81) b1 + (s_ly (s_sd (G 81) b2) (s_cn (G 81) b1) (G 81 1).toNat 0 0 W1).1)) 36 (s_ly (s_sd (G 81) b2) (s_cn (G 81) b1) (G 81 1).toNat 0 0 W1).1 else z_ro (z_ro (z_ro (G 80) 37 (0 + s_cn (G 81) b1)) 36 (s_cn (G 81) b1)) 37 (s_cn (G 81) b1 + (s_ly (s_sd (G 81) b2) (s_cn (G 81) b1) (G 81 1).toNat 0 0 W1).1)) = z_ro (z_ro (z_ro (G 80) 37 (0 + s_cn (G 81) b1)) 36 (s_cn (G 81) b1)) 37 (s_cn (G 81) b1 + (s_ly (s_sd (G 81) b2) (s_cn (G 81) b1) (G 81 1).toNat 0 0 W1).1) from if_neg (by omega), z_up_up] at e2
  have c2 : (s_ly (s_sd (G 81) b2) (s_cn (G 81) b1) (G 81 1).toNat 0 0 W1).1 = s_cn (G 81) b2 := s_ly_c _ _ _ _ _ _ _ _
  have a2 := s_ly_ag (s_sd (G 81) b2) (s_cn (G 81) b1) 0 (G 81 1).toNat 0 0 W1 (fun _ => 0) (fun k a b => by omega)
  have n2 := s_ly_ne (s_sd (G 81) b2) (s_cn (G 81) b1) (G 81 1).toNat 0 0 W1
  rw [c2] at e2 a2
  have es : z_ro (z_ro (z_ro (G 80) 37 (0 + s_cn (G 81) b1)) 36 (s_cn (G 81) b1)) 37 (s_cn (G 81) b1 + 0) = z_ro (z_ro (G 80) 37 (0 + s_cn (G 81) b1)) 36 (s_cn (G 81) b1) := by
    have q : z_ro (z_ro (G 80) 37 (0 + s_cn (G 81) b1)) 36 (s_cn (G 81) b1) 37 = s_cn (G 81) b1 + 0 := by rw [z_ro_ne _ _ (by omega), z_ro_eq]; omega
    rw [← q]; exact z_ro_id _ _
  rw [es] at e2
  refine ⟨z_ro (z_ro (z_ro (G 80) 37 (s_cn (G 81) b1)) 36 (s_cn (G 81) b1)) 37 (s_cn (G 81) b1 + s_cn (G 81) b2), (s_ly (s_sd (G 81) b2) (s_cn (G 81) b1) (G 81 1).toNat 0 0 W1).2, ?_, ?_, ?_, fun k a b => ?_, fun k a b => ?_, fun k a b => ?_⟩
  · have e0 : z_up (z_up G 80 (z_ro (G 80) 37 (0 + 0))) 94 (G 94) = z_up G 80 (z_ro (G 80) 37 0) := z_up_self (by rw [z_up_ne _ _ (by omega)])
    rw [e0] at e1
    rw [show (0 : Int) + s_cn (G 81) b1 = s_cn (G 81) b1 by omega] at e1 e2
    rw [e_M_laySides]
    simp -implicitDefEqProofs (disch := first | assumption | omega | rfl | (simp only [z_up_eq, z_up_app, ↓reduceIte, Nat.reduceEqDiff]; omega)) only [z_lit0, z_lit1, z_lit2, z_litl, iI_add, iI_sub, iI_mul, iI_neg, iI_and, iI_or, iI_xor, iI_shl, iI_shr, iI_ushr, iI_div, iI_b, iI_c, iI_i2l, lI_l2i, lI_add, lI_sub, lI_mul, lI_neg, lI_div, lI_or, lI_and, lI_shl, lI_shr, nI_iI, lg_lt0, lg_gt0, lg_eq0, i_ne0', l_ne0', iI_lt, iI_le, iI_eq, lI_lt, lI_le, lI_eq, zb_0, zb_fit, zb_fit0, zb_fit1, i_one_zero, i_w_in, z_tb0, z_tb1, z_tb2, z_tb3, z_tb4, z_tb5, z_tb6, z_tb7, z_tb8, z_tbl, z_tu0, z_tu1, z_tu2, z_i_62, z_i_63, z_i_86, z_i_88, z_l_Y, z_ui_62, z_ui_63, z_ui_86, z_ui_88, z_ul_Y, z_sz_Y, z_sw_Y, iI_nat, z_ix_t, z_at, Int.add_zero, Int.sub_zero, Int.zero_add, Int.mul_zero, ne_eq, Bool.false_eq_true, Bool.true_eq_false, reduceCtorEq, eq_self, and_true, true_and, and_false, false_and, and_self, not_true_eq_false, not_false_eq_true, decide_true, decide_false, ↓reduceIte, Int.reduceEq, Int.reduceNe, Int.reduceLT, Int.reduceLE, Int.reduceAdd, Int.reduceSub, Int.reduceMul, Int.reduceNeg, Nat.reduceAdd, Nat.reduceEqDiff, Nat.reduceBEq, ↓z_x_eq, z_g_t, z_bI_s, z_bL_s, z_bR_s, z_bV_s, Int.cast_ofNat_Int, beq_self_eq_true, Bool.and_true, Bool.true_and, Bool.and_self, Bool.or_true, Bool.true_or, Bool.false_and, Bool.and_false, Bool.false_or, Bool.or_false, Bool.not_false, Bool.not_true, if_true, if_false, ite_true, ite_false, z_up_eq, z_up_app, z_ro_eq]
    rw [e_M_laySides_7]
    simp -implicitDefEqProofs (disch := first | assumption | omega | rfl | (simp only [z_up_eq, z_up_app, ↓reduceIte, Nat.reduceEqDiff]; omega)) only [z_lit0, z_lit1, z_lit2, z_litl, iI_add, iI_sub, iI_mul, iI_neg, iI_and, iI_or, iI_xor, iI_shl, iI_shr, iI_ushr, iI_div, iI_b, iI_c, iI_i2l, lI_l2i, lI_add, lI_sub, lI_mul, lI_neg, lI_div, lI_or, lI_and, lI_shl, lI_shr, nI_iI, lg_lt0, lg_gt0, lg_eq0, i_ne0', l_ne0', iI_lt, iI_le, iI_eq, lI_lt, lI_le, lI_eq, zb_0, zb_fit, zb_fit0, zb_fit1, i_one_zero, i_w_in, z_tb0, z_tb1, z_tb2, z_tb3, z_tb4, z_tb5, z_tb6, z_tb7, z_tb8, z_tbl, z_tu0, z_tu1, z_tu2, z_i_62, z_i_63, z_i_86, z_i_88, z_l_Y, z_ui_62, z_ui_63, z_ui_86, z_ui_88, z_ul_Y, z_sz_Y, z_sw_Y, iI_nat, z_ix_t, z_at, Int.add_zero, Int.sub_zero, Int.zero_add, Int.mul_zero, ne_eq, Bool.false_eq_true, Bool.true_eq_false, reduceCtorEq, eq_self, and_true, true_and, and_false, false_and, and_self, not_true_eq_false, not_false_eq_true, decide_true, decide_false, ↓reduceIte, Int.reduceEq, Int.reduceNe, Int.reduceLT, Int.reduceLE, Int.reduceAdd, Int.reduceSub, Int.reduceMul, Int.reduceNeg, Nat.reduceAdd, Nat.reduceEqDiff, Nat.reduceBEq, ↓z_x_eq, z_g_t, z_bI_s, z_bL_s, z_bR_s, z_bV_s, Int.cast_ofNat_Int, beq_self_eq_true, Bool.and_true, Bool.true_and, Bool.and_self, Bool.or_true, Bool.true_or, Bool.false_and, Bool.and_false, Bool.false_or, Bool.or_false, Bool.not_false, Bool.not_true, if_true, if_false, ite_true, ite_false, z_up_eq, z_up_app, z_ro_eq, e1]
    rw [e_M_laySides_7]
    simp -implicitDefEqProofs (disch := first | assumption | omega | rfl | (simp only [z_up_eq, z_up_app, ↓reduceIte, Nat.reduceEqDiff]; omega)) only [z_lit0, z_lit1, z_lit2, z_litl, iI_add, iI_sub, iI_mul, iI_neg, iI_and, iI_or, iI_xor, iI_shl, iI_shr, iI_ushr, iI_div, iI_b, iI_c, iI_i2l, lI_l2i, lI_add, lI_sub, lI_mul, lI_neg, lI_div, lI_or, lI_and, lI_shl, lI_shr, nI_iI, lg_lt0, lg_gt0, lg_eq0, i_ne0', l_ne0', iI_lt, iI_le, iI_eq, lI_lt, lI_le, lI_eq, zb_0, zb_fit, zb_fit0, zb_fit1, i_one_zero, i_w_in, z_tb0, z_tb1, z_tb2, z_tb3, z_tb4, z_tb5, z_tb6, z_tb7, z_tb8, z_tbl, z_tu0, z_tu1, z_tu2, z_i_62, z_i_63, z_i_86, z_i_88, z_l_Y, z_ui_62, z_ui_63, z_ui_86, z_ui_88, z_ul_Y, z_sz_Y, z_sw_Y, iI_nat, z_ix_t, z_at, Int.add_zero, Int.sub_zero, Int.zero_add, Int.mul_zero, ne_eq, Bool.false_eq_true, Bool.true_eq_false, reduceCtorEq, eq_self, and_true, true_and, and_false, false_and, and_self, not_true_eq_false, not_false_eq_true, decide_true, decide_false, ↓reduceIte, Int.reduceEq, Int.reduceNe, Int.reduceLT, Int.reduceLE, Int.reduceAdd, Int.reduceSub, Int.reduceMul, Int.reduceNeg, Nat.reduceAdd, Nat.reduceEqDiff, Nat.reduceBEq, ↓z_x_eq, z_g_t, z_bI_s, z_bL_s, z_bR_s, z_bV_s, Int.cast_ofNat_Int, beq_self_eq_true, Bool.and_true, Bool.true_and, Bool.and_self, Bool.or_true, Bool.true_or, Bool.false_and, Bool.and_false, Bool.false_or, Bool.or_false, Bool.not_false, Bool.not_true, if_true, if_false, ite_true, ite_false, z_up_eq, z_up_app, z_ro_eq, e2]
    rw [e_M_laySides_7]
    simp -implicitDefEqProofs (disch := first | assumption | omega | rfl | (simp only [z_up_eq, z_up_app, ↓reduceIte, Nat.reduceEqDiff]; omega)) only [z_lit0, z_lit1, z_lit2, z_litl, iI_add, iI_sub, iI_mul, iI_neg, iI_and, iI_or, iI_xor, iI_shl, iI_shr, iI_ushr, iI_div, iI_b, iI_c, iI_i2l, lI_l2i, lI_add, lI_sub, lI_mul, lI_neg, lI_div, lI_or, lI_and, lI_shl, lI_shr, nI_iI, lg_lt0, lg_gt0, lg_eq0, i_ne0', l_ne0', iI_lt, iI_le, iI_eq, lI_lt, lI_le, lI_eq, zb_0, zb_fit, zb_fit0, zb_fit1, i_one_zero, i_w_in, z_tb0, z_tb1, z_tb2, z_tb3, z_tb4, z_tb5, z_tb6, z_tb7, z_tb8, z_tbl, z_tu0, z_tu1, z_tu2, z_i_62, z_i_63, z_i_86, z_i_88, z_l_Y, z_ui_62, z_ui_63, z_ui_86, z_ui_88, z_ul_Y, z_sz_Y, z_sw_Y, iI_nat, z_ix_t, z_at, Int.add_zero, Int.sub_zero, Int.zero_add, Int.mul_zero, ne_eq, Bool.false_eq_true, Bool.true_eq_false, reduceCtorEq, eq_self, and_true, true_and, and_false, false_and, and_self, not_true_eq_false, not_false_eq_true, decide_true, decide_false, ↓reduceIte, Int.reduceEq, Int.reduceNe, Int.reduceLT, Int.reduceLE, Int.reduceAdd, Int.reduceSub, Int.reduceMul, Int.reduceNeg, Nat.reduceAdd, Nat.reduceEqDiff, Nat.reduceBEq, ↓z_x_eq, z_g_t, z_bI_s, z_bL_s, z_bR_s, z_bV_s, Int.cast_ofNat_Int, beq_self_eq_true, Bool.and_true, Bool.true_and, Bool.and_self, Bool.or_true, Bool.true_or, Bool.false_and, Bool.and_false, Bool.false_or, Bool.or_false, Bool.not_false, Bool.not_true, if_true, if_false, ite_true, ite_false, z_up_eq, z_up_app, z_ro_eq]
  · rw [z_ro_eq]
  · rw [z_ro_ne _ _ (by omega), z_ro_eq]
  · rw [z_ro_ne _ _ b, z_ro_ne _ _ a, z_ro_ne _ _ b]
  · rw [n2 k (by omega)]
    have := a1 k a b
    rw [Int.zero_add] at this
    rw [this]; unfold s_li; rw [Int.zero_add]
  · exact a2 k a b
theorem z_find_snoc {P : Int → Bool} : ∀ (n : Nat) (i : Int), 0 ≤ i → z_find (n + 1) i P = if z_find n i P = -1 then (if P (i + n) = true then i + n else -1) else z_find n i P
  | 0, i, h => by
    show cond (P i) i (-1) = if (-1 : Int) = -1 then (if P (i + 0) = true then i + 0 else -1) else -1
    rw [if_pos rfl, Int.add_zero]
    cases P i <;> rfl
  | n + 1, i, h => by
    show cond (P i) i (z_find (n + 1) (i + 1) P) = if cond (P i) i (z_find n (i + 1) P) = -1 then (if P (i + ((n + 1 : Nat) : Int)) = true then i + ((n + 1 : Nat) : Int) else -1) else cond (P i) i (z_find n (i + 1) P)
    cases P i
    · show z_find (n + 1) (i + 1) P = if z_find n (i + 1) P = -1 then _ else z_find n (i + 1) P
      rw [z_find_snoc n (i + 1) (by omega), show i + 1 + (n : Int) = i + ((n + 1 : Nat) : Int) by omega]
    · show i = if i = -1 then _ else i
      rw [if_neg (by omega)]
theorem z_sum_0 : ∀ (n : Nat) (i : Int), z_sum n i (fun _ => 0) = 0
  | 0, _ => rfl
  | n + 1, i => by show 0 + z_sum n (i + 1) (fun _ => 0) = 0; rw [z_sum_0 n (i + 1)]; rfl
theorem z_sum_ix {D F : Int → Int} {N : Nat} : ∀ n : Nat, (∀ k : Int, 0 ≤ k → k < n → 0 ≤ D k ∧ D k < N) → (∀ k k' : Int, 0 ≤ k → k < k' → k' < n → D k ≠ D k') → z_sum N 0 (fun p => if s_ix D n p = -1 then 0 else F (s_ix D n p)) = z_sum n 0 F
  | 0, _, _ => by
    have : (fun p : Int => if s_ix D 0 p = -1 then 0 else F (s_ix D 0 p)) = fun _ => 0 := by funext p; exact if_pos rfl
    rw [this]; exact z_sum_0 N 0
  | n + 1, hD, hI => by
    have ih := z_sum_ix (D := D) (F := F) (N := N) n (fun k a b => hD k a (by omega)) (fun k k' a b c => hI k k' a b (by omega))
    have hn := hD n (by omega) (by omega)
    have q0 : s_ix D n (D n) = -1 := by
      rcases s_ix_in D n (D n) with f | ⟨f1, f2, f3⟩
      · exact f
      · exact absurd f3 (hI _ n f1 f2 (by omega))
    have sn := fun p => z_find_snoc (P := fun i => decide (D i = p)) n 0 (by omega)
    have q1 : s_ix D (n + 1) (D n) = n := by
      show z_find (n + 1) 0 _ = _
      rw [sn, show z_find n 0 (fun i => decide (D i = D n)) = -1 from q0, if_pos rfl, Int.zero_add, if_pos (decide_eq_true rfl)]
    have q2 : ∀ p, p ≠ D n → s_ix D (n + 1) p = s_ix D n p := by
      intro p hp
      show z_find (n + 1) 0 _ = _
      rw [sn, Int.zero_add]
      by_cases c : z_find n 0 (fun i => decide (D i = p)) = -1
      · rw [if_pos c, if_neg (fun q => hp (of_decide_eq_true q).symm)]; exact c.symm
      · rw [if_neg c]; rfl
    rw [z_sum_one (f := fun p => if s_ix D (n + 1) p = -1 then 0 else F (s_ix D (n + 1) p)) (g := fun p => if s_ix D n p = -1 then 0 else F (s_ix D n p)) (q := D n) N 0 hn.1 (by omega) (fun k a b c => by rw [q2 k c]), ih, z_sum_snoc, Int.zero_add]
    rw [q0, q1, if_pos rfl, if_neg (by omega)]
    omega
/-- what one changes of the air by being asleep -/
def g_ch (A X : Int → Int) (b p : Int) : Int := t_breath A X p b (A (32 + 5 * p + 3)) 1 (A 8) (A (32 + 5 * p + 2)) - t_breath A X p b (A (32 + 5 * p + 3)) (A (32 + 5 * p + 4)) (A 8) (A (32 + 5 * p + 2))
def g_su (A X D : Int → Int) (b : Int) (n : Nat) (s : Int) : Int := z_sum n 0 (fun k => if i_has s k = true then g_ch A X b (D k) else 0)
def g_hs (A X D : Int → Int) (n : Nat) (no s : Int) : Bool := m_holds A X (A 6) no (m_air0 A X (A (82 + 2 * no)) + g_su A X D (A (82 + 2 * no)) n s) (A (82 + 2 * no))
/-- rows in which only how those of a list are is otherwise -/
def h_fr (A D : Int → Int) (n : Nat) (R : Int → Int) : Prop := (∀ k, (∀ j : Int, 0 ≤ j → j < n → k ≠ 32 + 5 * D j + 4) → R k = A k) ∧ ∀ j : Int, 0 ≤ j → j < n → 0 ≤ R (32 + 5 * D j + 4) ∧ R (32 + 5 * D j + 4) ≤ 2
theorem h_fr_how {A D R : Int → Int} {n : Nat} (h : h_fr A D n R) {p : Int} (hp : 0 ≤ p) : R (32 + 5 * p + 4) = if s_ix D n p = -1 then A (32 + 5 * p + 4) else R (32 + 5 * D (s_ix D n p) + 4) := by
  rcases s_ix_in D n p with f | ⟨f1, f2, f3⟩
  · rw [if_pos f]
    refine h.1 _ (fun j a b e => ?_)
    have hz := z_find_none (P := fun i => decide (D i = p)) n 0 (by omega) f j a (by omega)
    exact (of_decide_eq_false hz) (by omega)
  · rw [if_neg (by omega), f3]
theorem h_fr_ag {A D R : Int → Int} {n : Nat} (h : h_fr A D n R) (hD : ∀ k : Int, 0 ≤ k → k < n → 0 ≤ D k ∧ D k < 10) : m_ag A R := ⟨fun k a b => h.1 k (fun j c e => by have := hD j c e; omega), fun q a b => ⟨h.1 _ (fun j c e => by have := hD j c e; omega), h.1 _ (fun j c e => by have := hD j c e; omega)⟩⟩
theorem h_fr_ok {A D R : Int → Int} {n : Nat} (hM : m_ok A) (h : h_fr A D n R) (hD : ∀ k : Int, 0 ≤ k → k < n → 0 ≤ D k ∧ D k < A 1) : m_ok R := by
  have m1 := hM.2.1
  refine ag_ok hM (h_fr_ag h (fun k a b => by have := hD k a b; omega)) (by rw [h.1 8 (fun j c e => by have := hD j c e; omega)]; exact hM.2.2.2.2.2.2.2.2.1) (fun p a b => ?_)
  have mp := mo_p hM p a b
  rw [h.1 (32 + 5 * p + 2) (fun j c e => by omega), h.1 (32 + 5 * p + 3) (fun j c e => by omega)]
  refine ⟨mp.2.2.1, mp.2.2.2.1, ?_⟩
  rw [h_fr_how h a]
  split
  · exact mp.2.2.2.2
  · rename_i q
    rcases s_ix_in D n p with f | ⟨f1, f2, f3⟩
    · exact absurd f q
    · exact h.2 _ f1 f2
theorem h_air {A X D R : Int → Int} {n : Nat} {b s : Int} (hM : m_ok A) (h : h_fr A D n R) (hD : ∀ k : Int, 0 ≤ k → k < n → 0 ≤ D k ∧ D k < A 1) (hI : ∀ k k' : Int, 0 ≤ k → k < k' → k' < n → D k ≠ D k') (hv : ∀ j : Int, 0 ≤ j → j < n → R (32 + 5 * D j + 4) = if i_has s j = true then 1 else A (32 + 5 * D j + 4)) : m_air0 R X b = m_air0 A X b + g_su A X D b n s := by
  have m1 := hM.2.1
  have hag := h_fr_ag h (fun k a b => by have := hD k a b; omega)
  rw [ag_air hM (h_fr_ok hM h hD) hag]
  unfold g_su m_air0
  rw [← z_sum_ix (D := D) (N := (A 1).toNat) n (fun k a b => by have := hD k a b; omega) hI, z_sum_add]
  refine z_sum_eq _ _ (fun p a c => ?_)
  rw [h.1 8 (fun j c e => by have := hD j c e; omega), h.1 (32 + 5 * p + 2) (fun j c e => by omega), h.1 (32 + 5 * p + 3) (fun j c e => by omega), h_fr_how h a]
  by_cases q : s_ix D n p = -1
  · rw [if_pos q, if_pos q, Int.add_zero]
  · rw [if_neg q, if_neg q]
    rcases s_ix_in D n p with f | ⟨f1, f2, f3⟩
    · exact absurd f q
    · rw [hv _ f1 f2, f3]
      unfold g_ch
      split <;> omega
theorem h_held {A X D R : Int → Int} {n : Nat} {no s hb : Int} (hM : m_ok A) (hno : 0 ≤ no ∧ no < A 2) (h : h_fr A D n R) (hD : ∀ k : Int, 0 ≤ k → k < n → 0 ≤ D k ∧ D k < A 1) (hI : ∀ k k' : Int, 0 ≤ k → k < k' → k' < n → D k ≠ D k') (hv : ∀ j : Int, 0 ≤ j → j < n → R (32 + 5 * D j + 4) = if i_has s j = true then 1 else A (32 + 5 * D j + 4)) : m_held R X (-1) hb no 0 = g_hs A X D n no s := by
  have m1 := hM.2.1
  have m2 := hM.2.2.1
  have hag := h_fr_ag h (fun k a b => by have := hD k a b; omega)
  unfold m_held g_hs
  rw [m_air_0, h.1 (82 + 2 * no) (fun j c e => by have := hD j c e; omega), Int.add_zero, h.1 6 (fun j c e => by have := hD j c e; omega), ag_holds hag hno.1, h_air hM h hD hI hv]
theorem z_bv_96 (T : ZT) (G : ZG) (s : ZG × ZG) (b : Bool) : z_bv (z_Y T G s) 96 (iI (zb b)) = iI (zb b) := by
  unfold z_bv
  rw [if_neg (show ¬ z_kd (z_Y T G s) 96 = 21 from (by decide : ¬ (22 : Nat) = 21))]
  cases b <;> decide
theorem z_bv_97 (T : ZT) (G : ZG) (s : ZG × ZG) (b : Bool) : z_bv (z_Y T G s) 97 (iI (zb b)) = iI (zb b) := by
  unfold z_bv
  rw [if_neg (show ¬ z_kd (z_Y T G s) 97 = 21 from (by decide : ¬ (22 : Nat) = 21))]
  cases b <;> decide
theorem p_ff_2 (d : Nat) (T : ZT) (G : ZG) (s : ZG × ZG) {D : Int → Int} {n : Nat} {no : Int} (hn : n ≤ 10) (h37 : G 80 37 = n) (h94 : G 94 = D) (hD : ∀ k : Int, 0 ≤ k → k < n → 0 ≤ D k ∧ D k < 10) : ∀ (m : Nat) (k : Int) (H : Int → Int), 0 ≤ k → k + m = n → (∀ j : Int, 0 ≤ j → j < k → H j = G 81 (32 + 5 * D j + 4)) → ∃ H', z_w d_M_findFalls (z_call (d + 1)) 2 [some (vr 80), some (vi (iI no)), some (vi (iI k)), none] [] (z_Y T (z_up G 95 H) s) = z_w d_M_findFalls (z_call (d + 1)) 35 [some (vr 80), some (vi (iI no)), some (vi (iI 0)), none] [] (z_Y T (z_up G 95 H') s) ∧ ∀ j : Int, 0 ≤ j → j < n → H' j = G 81 (32 + 5 * D j + 4)
  | 0, k, H, h0, h, hH => by
    have c : (k < n) = False := eq_false (by omega)
    refine ⟨H, ?_, fun j a b => hH j a (by omega)⟩
    rw [e_M_findFalls_2]
    simp -implicitDefEqProofs (disch := first | assumption | omega | rfl | (simp only [z_up_eq, z_up_app, ↓reduceIte, Nat.reduceEqDiff]; omega)) only [z_lit0, z_lit1, z_lit2, z_litl, iI_add, iI_sub, iI_mul, iI_neg, iI_and, iI_or, iI_xor, iI_shl, iI_shr, iI_ushr, iI_div, iI_b, iI_c, iI_i2l, lI_l2i, lI_add, lI_sub, lI_mul, lI_neg, lI_div, lI_or, lI_and, lI_shl, lI_shr, nI_iI, lg_lt0, lg_gt0, lg_eq0, i_ne0', l_ne0', iI_lt, iI_le, iI_eq, lI_lt, lI_le, lI_eq, zb_0, zb_fit, zb_fit0, zb_fit1, i_one_zero, i_w_in, z_tb0, z_tb1, z_tb2, z_tb3, z_tb4, z_tb5, z_tb6, z_tb7, z_tb8, z_tbl, z_tu0, z_tu1, z_tu2, z_i_62, z_i_63, z_i_86, z_i_88, z_l_Y, z_ui_62, z_ui_63, z_ui_86, z_ui_88, z_ul_Y, z_sz_Y, z_sw_Y, iI_nat, z_ix_t, z_at, Int.add_zero, Int.sub_zero, Int.zero_add, Int.mul_zero, ne_eq, Bool.false_eq_true, Bool.true_eq_false, reduceCtorEq, eq_self, and_true, true_and, and_false, false_and, and_self, not_true_eq_false, not_false_eq_true, decide_true, decide_false, ↓reduceIte, Int.reduceEq, Int.reduceNe, Int.reduceLT, Int.reduceLE, Int.reduceAdd, Int.reduceSub, Int.reduceMul, Int.reduceNeg, Nat.reduceAdd, Nat.reduceEqDiff, Nat.reduceBEq, ↓z_x_eq, z_g_t, z_bI_s, z_bL_s, z_bR_s, z_bV_s, Int.cast_ofNat_Int, beq_self_eq_true, Bool.and_true, Bool.true_and, Bool.and_self, Bool.or_true, Bool.true_or, Bool.false_and, Bool.and_false, Bool.false_or, Bool.or_false, Bool.not_false, Bool.not_true, if_true, if_false, ite_true, ite_false, z_up_eq, z_up_app, z_ro_eq, h37, c]
  | m + 1, k, H, h0, h, hH => by
    have c : (k < n) = True := eq_true (by omega)
    have hd := hD k h0 (by omega)
    obtain ⟨H', ih, kk⟩ := p_ff_2 d T G s (no := no) hn h37 h94 hD m (k + 1) (z_ro H k (G 81 (32 + 5 * D k + 4))) (by omega) (by omega) (fun j a b => by
      by_cases e : j = k
      · rw [e, z_ro_eq]
      · rw [z_ro_ne _ _ e]; exact hH j a (by omega))
    refine ⟨H', ?_, kk⟩
    have gt := p_get d T (z_up G 95 H) s (p := D k) (w := 4) (by omega)
    rw [z_up_ne _ _ (show 81 ≠ 95 by omega)] at gt
    rw [← ih, e_M_findFalls_2]
    simp -implicitDefEqProofs (disch := first | assumption | omega | rfl | (simp only [z_up_eq, z_up_app, ↓reduceIte, Nat.reduceEqDiff]; omega)) only [z_lit0, z_lit1, z_lit2, z_litl, iI_add, iI_sub, iI_mul, iI_neg, iI_and, iI_or, iI_xor, iI_shl, iI_shr, iI_ushr, iI_div, iI_b, iI_c, iI_i2l, lI_l2i, lI_add, lI_sub, lI_mul, lI_neg, lI_div, lI_or, lI_and, lI_shl, lI_shr, nI_iI, lg_lt0, lg_gt0, lg_eq0, i_ne0', l_ne0', iI_lt, iI_le, iI_eq, lI_lt, lI_le, lI_eq, zb_0, zb_fit, zb_fit0, zb_fit1, i_one_zero, i_w_in, z_tb0, z_tb1, z_tb2, z_tb3, z_tb4, z_tb5, z_tb6, z_tb7, z_tb8, z_tbl, z_tu0, z_tu1, z_tu2, z_i_62, z_i_63, z_i_86, z_i_88, z_l_Y, z_ui_62, z_ui_63, z_ui_86, z_ui_88, z_ul_Y, z_sz_Y, z_sw_Y, iI_nat, z_ix_t, z_at, Int.add_zero, Int.sub_zero, Int.zero_add, Int.mul_zero, ne_eq, Bool.false_eq_true, Bool.true_eq_false, reduceCtorEq, eq_self, and_true, true_and, and_false, false_and, and_self, not_true_eq_false, not_false_eq_true, decide_true, decide_false, ↓reduceIte, Int.reduceEq, Int.reduceNe, Int.reduceLT, Int.reduceLE, Int.reduceAdd, Int.reduceSub, Int.reduceMul, Int.reduceNeg, Nat.reduceAdd, Nat.reduceEqDiff, Nat.reduceBEq, ↓z_x_eq, z_g_t, z_bI_s, z_bL_s, z_bR_s, z_bV_s, Int.cast_ofNat_Int, beq_self_eq_true, Bool.and_true, Bool.true_and, Bool.and_self, Bool.or_true, Bool.true_or, Bool.false_and, Bool.and_false, Bool.false_or, Bool.or_false, Bool.not_false, Bool.not_true, if_true, if_false, ite_true, ite_false, z_up_eq, z_up_app, z_ro_eq, h37, c, h94, gt, z_up_up]
theorem p_ff_47 (d : Nat) (T : ZT) (G : ZG) (s : ZG × ZG) {A D : Int → Int} {n : Nat} {no st : Int} (hn : n ≤ 10) (h37 : G 80 37 = n) (h94 : G 94 = D) (h95 : ∀ j : Int, 0 ≤ j → j < n → G 95 j = A (32 + 5 * D j + 4)) (hA : ∀ j : Int, 0 ≤ j → j < n → 0 ≤ A (32 + 5 * D j + 4) ∧ A (32 + 5 * D j + 4) ≤ 2) (hD : ∀ k : Int, 0 ≤ k → k < n → 0 ≤ D k ∧ D k < 10) (hI : ∀ k k' : Int, 0 ≤ k → k < k' → k' < n → D k ≠ D k') : ∀ (m : Nat) (k : Int) (R : Int → Int), 0 ≤ k → k + m = n → h_fr A D n R → (∀ j : Int, 0 ≤ j → j < k → R (32 + 5 * D j + 4) = if i_has st j = true then 1 else A (32 + 5 * D j + 4)) → ∃ R', z_w d_M_findFalls (z_call (d + 1)) 47 [some (vr 80), some (vi (iI no)), some (vi (iI st)), some (vi (iI k))] [] (z_Y T (z_up G 81 R) s) = z_w d_M_findFalls (z_call (d + 1)) 47 [some (vr 80), some (vi (iI no)), some (vi (iI st)), some (vi (iI n))] [] (z_Y T (z_up G 81 R') s) ∧ h_fr A D n R' ∧ ∀ j : Int, 0 ≤ j → j < n → R' (32 + 5 * D j + 4) = if i_has st j = true then 1 else A (32 + 5 * D j + 4)
  | 0, k, R, h0, h, hf, hv => by
    have e : k = n := by omega
    subst e
    exact ⟨R, rfl, hf, hv⟩
  | m + 1, k, R, h0, h, hf, hv => by
    have c : (k < n) = True := eq_true (by omega)
    have hd := hD k h0 (by omega)
    have ha := hA k h0 (by omega)
    have s95 := h95 k h0 (by omega)
    have step : ∀ v : Int, (0 ≤ v ∧ v ≤ 2) → h_fr A D n (z_ro R (32 + 5 * D k + 4) v) := fun v b => ⟨fun q a => by rw [z_ro_ne _ _ (a k h0 (by omega))]; exact hf.1 q a, fun j a e => by
      unfold z_ro
      split
      · exact b
      · exact hf.2 j a e⟩
    have vals : ∀ v : Int, v = (if i_has st k = true then 1 else A (32 + 5 * D k + 4)) → ∀ j : Int, 0 ≤ j → j < k + 1 → z_ro R (32 + 5 * D k + 4) v (32 + 5 * D j + 4) = if i_has st j = true then 1 else A (32 + 5 * D j + 4) := fun v ev j a b => by
      by_cases e : j = k
      · rw [e, z_ro_eq]; exact ev
      · have := hI j k a (by omega) (by omega)
        rw [z_ro_ne _ _ (by omega)]; exact hv j a (by omega)
    have ps := fun v => p_set d T (z_up G 81 R) s (p := D k) (w := 4) (v := v) (by omega)
    simp only [z_up_eq, z_up_up] at ps
    cases hb : i_has st k
    · obtain ⟨R', ih, k1, k2⟩ := p_ff_47 d T G s (no := no) (st := st) hn h37 h94 h95 hA hD hI m (k + 1) (z_ro R (32 + 5 * D k + 4) (A (32 + 5 * D k + 4))) (by omega) (by omega) (step _ ha) (vals _ (by rw [hb]; rfl))
      refine ⟨R', ?_, k1, k2⟩
      have p1 := ps (A (32 + 5 * D k + 4))
      rw [← ih, e_M_findFalls_47]
      simp -implicitDefEqProofs (disch := first | assumption | omega | rfl | (simp only [z_up_eq, z_up_app, ↓reduceIte, Nat.reduceEqDiff]; omega)) only [z_lit0, z_lit1, z_lit2, z_litl, iI_add, iI_sub, iI_mul, iI_neg, iI_and, iI_or, iI_xor, iI_shl, iI_shr, iI_ushr, iI_div, iI_b, iI_c, iI_i2l, lI_l2i, lI_add, lI_sub, lI_mul, lI_neg, lI_div, lI_or, lI_and, lI_shl, lI_shr, nI_iI, lg_lt0, lg_gt0, lg_eq0, i_ne0', l_ne0', iI_lt, iI_le, iI_eq, lI_lt, lI_le, lI_eq, zb_0, zb_fit, zb_fit0, zb_fit1, i_one_zero, i_w_in, z_tb0, z_tb1, z_tb2, z_tb3, z_tb4, z_tb5, z_tb6, z_tb7, z_tb8, z_tbl, z_tu0, z_tu1, z_tu2, z_i_62, z_i_63, z_i_86, z_i_88, z_l_Y, z_ui_62, z_ui_63, z_ui_86, z_ui_88, z_ul_Y, z_sz_Y, z_sw_Y, iI_nat, z_ix_t, z_at, Int.add_zero, Int.sub_zero, Int.zero_add, Int.mul_zero, ne_eq, Bool.false_eq_true, Bool.true_eq_false, reduceCtorEq, eq_self, and_true, true_and, and_false, false_and, and_self, not_true_eq_false, not_false_eq_true, decide_true, decide_false, ↓reduceIte, Int.reduceEq, Int.reduceNe, Int.reduceLT, Int.reduceLE, Int.reduceAdd, Int.reduceSub, Int.reduceMul, Int.reduceNeg, Nat.reduceAdd, Nat.reduceEqDiff, Nat.reduceBEq, ↓z_x_eq, z_g_t, z_bI_s, z_bL_s, z_bR_s, z_bV_s, Int.cast_ofNat_Int, beq_self_eq_true, Bool.and_true, Bool.true_and, Bool.and_self, Bool.or_true, Bool.true_or, Bool.false_and, Bool.and_false, Bool.false_or, Bool.or_false, Bool.not_false, Bool.not_true, if_true, if_false, ite_true, ite_false, z_up_eq, z_up_app, z_ro_eq, h37, c, h94, p_mhas, hb, zb_f, s95, p1]
    · obtain ⟨R', ih, k1, k2⟩ := p_ff_47 d T G s (no := no) (st := st) hn h37 h94 h95 hA hD hI m (k + 1) (z_ro R (32 + 5 * D k + 4) 1) (by omega) (by omega) (step _ (by omega)) (vals _ (by rw [hb]; rfl))
      refine ⟨R', ?_, k1, k2⟩
      have p1 := ps 1
      rw [← ih, e_M_findFalls_47]
      simp -implicitDefEqProofs (disch := first | assumption | omega | rfl | (simp only [z_up_eq, z_up_app, ↓reduceIte, Nat.reduceEqDiff]; omega)) only [z_lit0, z_lit1, z_lit2, z_litl, iI_add, iI_sub, iI_mul, iI_neg, iI_and, iI_or, iI_xor, iI_shl, iI_shr, iI_ushr, iI_div, iI_b, iI_c, iI_i2l, lI_l2i, lI_add, lI_sub, lI_mul, lI_neg, lI_div, lI_or, lI_and, lI_shl, lI_shr, nI_iI, lg_lt0, lg_gt0, lg_eq0, i_ne0', l_ne0', iI_lt, iI_le, iI_eq, lI_lt, lI_le, lI_eq, zb_0, zb_fit, zb_fit0, zb_fit1, i_one_zero, i_w_in, z_tb0, z_tb1, z_tb2, z_tb3, z_tb4, z_tb5, z_tb6, z_tb7, z_tb8, z_tbl, z_tu0, z_tu1, z_tu2, z_i_62, z_i_63, z_i_86, z_i_88, z_l_Y, z_ui_62, z_ui_63, z_ui_86, z_ui_88, z_ul_Y, z_sz_Y, z_sw_Y, iI_nat, z_ix_t, z_at, Int.add_zero, Int.sub_zero, Int.zero_add, Int.mul_zero, ne_eq, Bool.false_eq_true, Bool.true_eq_false, reduceCtorEq, eq_self, and_true, true_and, and_false, false_and, and_self, not_true_eq_false, not_false_eq_true, decide_true, decide_false, ↓reduceIte, Int.reduceEq, Int.reduceNe, Int.reduceLT, Int.reduceLE, Int.reduceAdd, Int.reduceSub, Int.reduceMul, Int.reduceNeg, Nat.reduceAdd, Nat.reduceEqDiff, Nat.reduceBEq, ↓z_x_eq, z_g_t, z_bI_s, z_bL_s, z_bR_s, z_bV_s, Int.cast_ofNat_Int, beq_self_eq_true, Bool.and_true, Bool.true_and, Bool.and_self, Bool.or_true, Bool.true_or, Bool.false_and, Bool.and_false, Bool.false_or, Bool.or_false, Bool.not_false, Bool.not_true, if_true, if_false, ite_true, ite_false, z_up_eq, z_up_app, z_ro_eq, h37, c, h94, p_mhas, hb, zb_t, p1]

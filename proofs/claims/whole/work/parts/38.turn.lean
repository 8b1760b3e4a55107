/-! THE PURE PART, 18: the model's row in which somebody sits, is or begins otherwise, or ushers are elsewhere -/
def m_ag (A B : Int → Int) : Prop := (∀ k, k ≠ 8 → k < 32 ∨ 82 ≤ k → B k = A k) ∧ (∀ q, 0 ≤ q → q < 10 → B (32 + 5 * q) = A (32 + 5 * q) ∧ B (32 + 5 * q + 1) = A (32 + 5 * q + 1))
theorem ag_id (A : Int → Int) : m_ag A A := ⟨fun _ _ _ => rfl, fun _ _ _ => ⟨rfl, rfl⟩⟩
theorem ag_p {A B : Int → Int} {p w v : Int} (h : m_ag A B) (hp : 0 ≤ p ∧ p < 10) (hw : 2 ≤ w ∧ w ≤ 4) : m_ag A (z_ro B (32 + 5 * p + w) v) := by
  refine ⟨fun k a b => ?_, fun q a b => ?_⟩
  · rw [z_ro_ne _ _ (by omega)]; exact h.1 k a b
  · rw [z_ro_ne _ _ (by omega), z_ro_ne _ _ (by omega)]; exact h.2 q a b
theorem ag_u {A B : Int → Int} {v : Int} (h : m_ag A B) : m_ag A (z_ro B 8 v) := by
  refine ⟨fun k a b => ?_, fun q a b => ?_⟩
  · rw [z_ro_ne _ _ a]; exact h.1 k a b
  · rw [z_ro_ne _ _ (by omega), z_ro_ne _ _ (by omega)]; exact h.2 q a b
theorem ag_ok {A B : Int → Int} (hM : m_ok A) (h : m_ag A B) (h8 : 0 ≤ B 8 ∧ B 8 ≤ 15) (hp : ∀ p, 0 ≤ p → p < A 1 → (0 ≤ B (32 + 5 * p + 2) ∧ B (32 + 5 * p + 2) ≤ 17) ∧ (-1 ≤ B (32 + 5 * p + 3) ∧ B (32 + 5 * p + 3) < A 0) ∧ (0 ≤ B (32 + 5 * p + 4) ∧ B (32 + 5 * p + 4) ≤ 2)) : m_ok B := by
  obtain ⟨m0, m1, m2, m3, m4, m5, m6, m7, m8, m9, m10, m11, ms, mp, mn, mc, mb, me⟩ := hM
  obtain ⟨g1, g2⟩ := h
  have e : ∀ k, k ≠ 8 → k < 32 ∨ 82 ≤ k → B k = A k := g1
  unfold m_ok
  rw [e 0 (by omega) (by omega), e 1 (by omega) (by omega), e 2 (by omega) (by omega), e 3 (by omega) (by omega), e 4 (by omega) (by omega), e 5 (by omega) (by omega), e 6 (by omega) (by omega), e 7 (by omega) (by omega), e 9 (by omega) (by omega), e 10 (by omega) (by omega), e 11 (by omega) (by omega)]
  refine ⟨m0, m1, m2, m3, m4, m5, m6, m7, h8, m9, m10, m11, fun k a b => ?_, fun p a b => ?_, fun k a b => ?_, fun k a b => ?_, fun k a b => ?_, fun k a b => ?_⟩
  · rw [e _ (by omega) (by omega), e _ (by omega) (by omega)]; exact ms k a b
  · have q := g2 p a (by omega)
    have q2 := mp p a b
    have q3 := hp p a b
    rw [q.1, q.2]
    exact ⟨q2.1, q2.2.1, q3.1, q3.2.1, q3.2.2⟩
  · rw [e _ (by omega) (by omega), e _ (by omega) (by omega)]; exact mn k a b
  · rw [e _ (by omega) (by omega), e _ (by omega) (by omega)]; exact mc k a b
  · rw [e _ (by omega) (by omega), e _ (by omega) (by omega)]; exact mb k a b
  · rw [e _ (by omega) (by omega), e _ (by omega) (by omega), e _ (by omega) (by omega)]; exact me k a b
theorem ag_cgh {A B : Int → Int} (h : m_ag A B) (p b : Int) : m_cgh B p b = m_cgh A p b := by
  unfold m_cgh
  rw [h.1 11 (by omega) (by omega)]
  refine z_any_eq _ _ (fun k a c => ?_)
  rw [h.1 _ (by omega) (by omega), h.1 _ (by omega) (by omega)]
theorem ag_time {A B : Int → Int} (h : m_ag A B) {p b st hw us sa : Int} (hp : 0 ≤ p ∧ p < 10) (hs : -1 ≤ st ∧ st < 10) : t_time B p b st hw us sa = t_time A p b st hw us sa := by
  unfold t_time
  rw [(h.2 p hp.1 hp.2).2]
  by_cases c : st = -1
  · rw [if_pos c, if_pos c]
  · rw [if_neg c, if_neg c, h.1 _ (by omega) (by omega), h.1 _ (by omega) (by omega)]
theorem ag_breath {A B X : Int → Int} (h : m_ag A B) {p b st hw us sa : Int} (hp : 0 ≤ p ∧ p < 10) (hs : -1 ≤ st ∧ st < 10) : t_breath B X p b st hw us sa = t_breath A X p b st hw us sa := by
  unfold t_breath
  rw [ag_cgh h]
  by_cases c : st = -1
  · rw [if_pos (Or.inl c), if_pos (Or.inl c)]
  · have e : t_names B p b st hw us sa = t_names A p b st hw us sa := by
      unfold t_names
      rw [ag_time h hp hs, (h.2 p hp.1 hp.2).1, (h.2 p hp.1 hp.2).2, h.1 _ (by omega) (by omega), h.1 _ (by omega) (by omega)]
    rw [e, ag_time h hp hs, (h.2 p hp.1 hp.2).1, (h.2 p hp.1 hp.2).2, h.1 6 (by omega) (by omega)]
theorem ag_holds {A B X : Int → Int} (h : m_ag A B) {t n ai b : Int} (hn : 0 ≤ n) : m_holds B X t n ai b = m_holds A X t n ai b := by
  unfold m_holds
  rw [h.1 _ (by omega) (by omega)]
/-- the air then -/
theorem ag_air {A B X : Int → Int} (hM : m_ok A) (hB : m_ok B) (h : m_ag A B) (b : Int) : m_air0 B X b = z_sum (A 1).toNat 0 (fun p => t_breath A X p b (B (32 + 5 * p + 3)) (B (32 + 5 * p + 4)) (B 8) (B (32 + 5 * p + 2))) := by
  unfold m_air0
  have e1 := h.1 1 (by omega) (by omega)
  have m1 := hM.2.1
  have m0 := hB.1
  rw [e1]
  refine z_sum_eq _ _ (fun k a c => ?_)
  have q := hB.2.2.2.2.2.2.2.2.2.2.2.2.2.1 k a (by omega)
  exact ag_breath h ⟨a, by omega⟩ ⟨by omega, by omega⟩
theorem ag_q {G : ZG} {B : Int → Int} (hQ : m_q G) (h : m_ag (G 81) B) (hB : m_ok B) : m_q (z_up G 81 B) := by
  obtain ⟨hM, hX, h1, h2⟩ := hQ
  unfold m_q
  rw [z_up_eq, z_up_ne G B (show 83 ≠ 81 by omega), z_up_ne G B (show 80 ≠ 81 by omega), h.1 5 (by omega) (by omega)]
  exact ⟨hB, hX, h1, h2⟩
/-- one otherwise: asleep, or awake if it is asleep -/
def m_oth (h : Int) : Int := if h = 1 then 0 else 1
theorem p_turned (d : Nat) (T : ZT) (G : ZG) (s : ZG × ZG) {p : Int} (hM : m_ok (G 81)) (hp : 0 ≤ p ∧ p < G 81 1) : z_call (d + 2) 226 [vr 80, vi (iI p)] (z_Y T G s) = some (vi (iI (G 81 (32 + 5 * p + 4))), z_Y T (z_up G 81 (z_ro (G 81) (32 + 5 * p + 4) (m_oth (G 81 (32 + 5 * p + 4))))) s) := by
  obtain ⟨m0, m1, m2, m3, m4, m5, m6, m7, m8, m9, m10, m11, ms, mp, mn, mc, mb, me⟩ := hM
  have h1 := mp p hp.1 hp.2
  rw [e_M_turned]
  unfold m_oth
  by_cases c : G 81 (32 + 5 * p + 4) = 1
  · simp -implicitDefEqProofs (disch := first | assumption | omega | rfl) only [z_lit0, z_lit1, z_lit2, z_litl, iI_add, iI_sub, iI_mul, iI_neg, iI_and, iI_or, iI_xor, iI_shl, iI_shr, iI_ushr, iI_div, iI_b, iI_c, iI_i2l, lI_l2i, lI_add, lI_sub, lI_mul, lI_neg, lI_div, lI_or, lI_and, lI_shl, lI_shr, nI_iI, lg_lt0, lg_gt0, lg_eq0, i_ne0', l_ne0', iI_lt, iI_le, iI_eq, lI_lt, lI_le, lI_eq, zb_0, zb_fit, zb_fit0, zb_fit1, i_one_zero, i_w_in, z_tb0, z_tb1, z_tb2, z_tb3, z_tb4, z_tb5, z_tb6, z_tb7, z_tb8, z_tbl, z_tu0, z_tu1, z_tu2, z_i_62, z_i_63, z_i_86, z_i_88, z_l_Y, z_ui_62, z_ui_63, z_ui_86, z_ui_88, z_ul_Y, z_sz_Y, z_sw_Y, iI_nat, z_ix_t, z_at, Int.add_zero, Int.sub_zero, Int.zero_add, Int.mul_zero, ne_eq, Bool.false_eq_true, Bool.true_eq_false, reduceCtorEq, eq_self, and_true, true_and, and_false, false_and, and_self, not_true_eq_false, not_false_eq_true, decide_true, decide_false, ↓reduceIte, Int.reduceEq, Int.reduceNe, Int.reduceLT, Int.reduceLE, Int.reduceAdd, Int.reduceSub, Int.reduceMul, Int.reduceNeg, Nat.reduceAdd, Nat.reduceEqDiff, Nat.reduceBEq, ↓z_x_eq, z_g_t, z_bI_s, z_bL_s, z_bR_s, z_bV_s, Int.cast_ofNat_Int, beq_self_eq_true, Bool.and_true, Bool.true_and, Bool.and_self, Bool.or_true, Bool.true_or, Bool.false_and, Bool.and_false, Bool.false_or, Bool.or_false, Bool.not_false, Bool.not_true, if_true, if_false, ite_true, ite_false, z_up_eq, z_up_app, z_ro_eq, p_get, p_set, c]
  · simp -implicitDefEqProofs (disch := first | assumption | omega | rfl) only [z_lit0, z_lit1, z_lit2, z_litl, iI_add, iI_sub, iI_mul, iI_neg, iI_and, iI_or, iI_xor, iI_shl, iI_shr, iI_ushr, iI_div, iI_b, iI_c, iI_i2l, lI_l2i, lI_add, lI_sub, lI_mul, lI_neg, lI_div, lI_or, lI_and, lI_shl, lI_shr, nI_iI, lg_lt0, lg_gt0, lg_eq0, i_ne0', l_ne0', iI_lt, iI_le, iI_eq, lI_lt, lI_le, lI_eq, zb_0, zb_fit, zb_fit0, zb_fit1, i_one_zero, i_w_in, z_tb0, z_tb1, z_tb2, z_tb3, z_tb4, z_tb5, z_tb6, z_tb7, z_tb8, z_tbl, z_tu0, z_tu1, z_tu2, z_i_62, z_i_63, z_i_86, z_i_88, z_l_Y, z_ui_62, z_ui_63, z_ui_86, z_ui_88, z_ul_Y, z_sz_Y, z_sw_Y, iI_nat, z_ix_t, z_at, Int.add_zero, Int.sub_zero, Int.zero_add, Int.mul_zero, ne_eq, Bool.false_eq_true, Bool.true_eq_false, reduceCtorEq, eq_self, and_true, true_and, and_false, false_and, and_self, not_true_eq_false, not_false_eq_true, decide_true, decide_false, ↓reduceIte, Int.reduceEq, Int.reduceNe, Int.reduceLT, Int.reduceLE, Int.reduceAdd, Int.reduceSub, Int.reduceMul, Int.reduceNeg, Nat.reduceAdd, Nat.reduceEqDiff, Nat.reduceBEq, ↓z_x_eq, z_g_t, z_bI_s, z_bL_s, z_bR_s, z_bV_s, Int.cast_ofNat_Int, beq_self_eq_true, Bool.and_true, Bool.true_and, Bool.and_self, Bool.or_true, Bool.true_or, Bool.false_and, Bool.and_false, Bool.false_or, Bool.or_false, Bool.not_false, Bool.not_true, if_true, if_false, ite_true, ite_false, z_up_eq, z_up_app, z_ro_eq, p_get, p_set, c]
theorem m_oth_in (h : Int) : 0 ≤ m_oth h ∧ m_oth h ≤ 1 := by unfold m_oth; split <;> omega
theorem ag_how {A : Int → Int} {p v : Int} (hM : m_ok A) (hp : 0 ≤ p ∧ p < A 1) (hv : 0 ≤ v ∧ v ≤ 2) : m_ok (z_ro A (32 + 5 * p + 4) v) := by
  have m1 := hM.2.1
  have m8 := hM.2.2.2.2.2.2.2.2.1
  refine ag_ok hM (ag_p (ag_id A) ⟨hp.1, by omega⟩ (by omega)) (by rw [z_ro_ne _ _ (by omega)]; exact m8) (fun q a b => ?_)
  have mq := hM.2.2.2.2.2.2.2.2.2.2.2.2.2.1 q a b
  rw [z_ro_ne _ _ (show 32 + 5 * q + 2 ≠ 32 + 5 * p + 4 by omega), z_ro_ne _ _ (show 32 + 5 * q + 3 ≠ 32 + 5 * p + 4 by omega)]
  refine ⟨mq.2.2.1, mq.2.2.2.1, ?_⟩
  unfold z_ro
  split
  · exact hv
  · exact mq.2.2.2.2
theorem ag_ush {A : Int → Int} {v : Int} (hM : m_ok A) (hv : 0 ≤ v ∧ v ≤ 15) : m_ok (z_ro A 8 v) := by
  refine ag_ok hM (ag_u (ag_id A)) (by rw [z_ro_eq]; exact hv) (fun q a b => ?_)
  have mq := hM.2.2.2.2.2.2.2.2.2.2.2.2.2.1 q a b
  rw [z_ro_ne _ _ (show 32 + 5 * q + 2 ≠ 8 by omega), z_ro_ne _ _ (show 32 + 5 * q + 3 ≠ 8 by omega), z_ro_ne _ _ (show 32 + 5 * q + 4 ≠ 8 by omega)]
  exact ⟨mq.2.2.1, mq.2.2.2.1, mq.2.2.2.2⟩
/-- the air, if one is otherwise -/
theorem ag_air1 {A X : Int → Int} {p v b : Int} (hM : m_ok A) (hp : 0 ≤ p ∧ p < A 1) (hv : 0 ≤ v ∧ v ≤ 2) : m_air0 (z_ro A (32 + 5 * p + 4) v) X b = m_air0 A X b - t_breath A X p b (A (32 + 5 * p + 3)) (A (32 + 5 * p + 4)) (A 8) (A (32 + 5 * p + 2)) + t_breath A X p b (A (32 + 5 * p + 3)) v (A 8) (A (32 + 5 * p + 2)) := by
  have m1 := hM.2.1
  rw [ag_air hM (ag_how hM hp hv) (ag_p (ag_id A) ⟨hp.1, by omega⟩ (by omega)) b]
  unfold m_air0
  rw [z_sum_one (g := fun p => t_breath A X p b (A (32 + 5 * p + 3)) (A (32 + 5 * p + 4)) (A 8) (A (32 + 5 * p + 2))) (q := p) (A 1).toNat 0 hp.1 (by omega) (fun k a c e => ?_)]
  · rw [z_ro_ne _ _ (show 32 + 5 * p + 3 ≠ 32 + 5 * p + 4 by omega), z_ro_ne _ _ (show (8 : Int) ≠ 32 + 5 * p + 4 by omega), z_ro_ne _ _ (show 32 + 5 * p + 2 ≠ 32 + 5 * p + 4 by omega), z_ro_eq]
  · rw [z_ro_ne _ _ (show 32 + 5 * k + 3 ≠ 32 + 5 * p + 4 by omega), z_ro_ne _ _ (show (8 : Int) ≠ 32 + 5 * p + 4 by omega), z_ro_ne _ _ (show 32 + 5 * k + 2 ≠ 32 + 5 * p + 4 by omega), z_ro_ne _ _ (show 32 + 5 * k + 4 ≠ 32 + 5 * p + 4 by omega)]

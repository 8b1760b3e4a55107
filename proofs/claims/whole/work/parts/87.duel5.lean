/-! THE PURE PART, 67: a duel, the class's tables -/
theorem s_ly_5 (P : Int → Bool) (o : Int) : ∀ (m : Nat) (i : Int) (W : Int → Int), s_ly P o m i 5 W = (5, W)
  | 0, _, _ => rfl
  | m + 1, i, W => by
    show cond (P i && decide ((5 : Int) < 5)) _ _ = _
    rw [decide_eq_false (by omega), Bool.and_false]
    exact s_ly_5 P o m (i + 1) W
def t_inv (A X : Int → Int) (b : Int) (B W : Int → Int) (c : Nat) : Prop := ∀ a : Int, 0 ≤ a → a < 2 ^ c → B a = g_su A X W b c a
theorem d_topI {c : Nat} (hc : c < 5) {a : Int} (ha : 0 ≤ a ∧ a < 2 ^ c) : i_has a c = false ∧ i_has (a + 2 ^ c) c = true ∧ ∀ k : Int, 0 ≤ k → k < c → i_has (a + 2 ^ c) k = i_has a k := by
  have p2 := p2_le (n := c) (by omega)
  have := d_top c hc a.toNat (by
    have : ((a.toNat : Nat) : Int) < ((2 ^ c : Nat) : Int) := by rw [show ((2 ^ c : Nat) : Int) = (2 : Int) ^ c by simp]; omega
    omega)
  rw [show ((a.toNat + 2 ^ c : Nat) : Int) = a + 2 ^ c by simp; omega, show ((a.toNat : Nat) : Int) = a by omega] at this
  refine ⟨this.1, this.2.1, fun k h0 h1 => ?_⟩
  have q := this.2.2 k.toNat (by omega)
  rw [show ((k.toNat : Nat) : Int) = k by omega] at q
  exact q
theorem t_inv_up {A X : Int → Int} {b p : Int} {B B' W : Int → Int} {c : Nat} (hc : c < 5) (h : t_inv A X b B W c) (hB : ∀ a : Int, 0 ≤ a → a < 2 ^ c → B' a = B a ∧ B' (a + 2 ^ c) = B a + g_ch A X b p) : t_inv A X b B' (z_ro W (0 + c) p) (c + 1) := by
  have p2 := p2_le (n := c) (by omega)
  intro a h0 h1
  have h1' : a < 2 ^ c + 2 ^ c := by rw [Int.pow_succ] at h1; omega
  have key : ∀ a' s : Int, 0 ≤ a' → a' < 2 ^ c → (∀ k : Int, 0 ≤ k → k < c → i_has s k = i_has a' k) → g_su A X (z_ro W (0 + c) p) b (c + 1) s = g_su A X W b c a' + if i_has s c = true then g_ch A X b p else 0 := by
    intro a' s q0 q1 q2
    unfold g_su
    rw [z_sum_snoc, Int.zero_add]
    congr 1
    · refine z_sum_eq _ _ (fun k e1 e2 => ?_)
      rw [q2 k e1 (by omega), z_ro_ne _ _ (by omega)]
    · rw [z_ro_eq]
  by_cases q : a < 2 ^ c
  · have t := d_topI hc ⟨h0, q⟩
    rw [key a a h0 q (fun _ _ _ => rfl), t.1, if_neg (by decide), Int.add_zero, (hB a h0 q).1, h a h0 q]
  · have t := d_topI hc (a := a - 2 ^ c) ⟨by omega, by omega⟩
    have e : a - 2 ^ c + 2 ^ c = a := by omega
    rw [e] at t
    have hb := (hB (a - 2 ^ c) (by omega) (by omega)).2
    rw [e] at hb
    rw [key (a - 2 ^ c) a (by omega) (by omega) t.2.2, t.2.1, if_pos rfl, hb, h _ (by omega) (by omega)]
theorem p_ts_114_78 (d : Nat) (T : ZT) (G : ZG) (s : ZG × ZG) {bl be ch p : Int} {c : Nat} {B0 : Int → Int} (hc : c < 5) : ∀ (m : Nat) (x : Int) (B : Int → Int), 0 ≤ x → x + m = 2 ^ c → (∀ a : Int, 0 ≤ a → a < 2 ^ c → B a = B0 a) → (∀ a : Int, 0 ≤ a → a < x → B (a + 2 ^ c) = B0 a + ch) → ∃ B', z_w d_Ga_takeSide (z_call d) 114 [some (vr 70), some (vi (iI bl)), some (vi (iI be)), some (vr 78), some (vr 76), some (vi (iI c)), some (vi (iI p)), none, some (vi (iI ch)), some (vi (iI x))] [] (z_Y T (z_up G 78 B) s) = z_w d_Ga_takeSide (z_call d) 10 [some (vr 70), some (vi (iI bl)), some (vi (iI be)), some (vr 78), some (vr 76), some (vi (iI ((c : Int) + 1))), some (vi (iI (p + 1))), none, none, none] [] (z_Y T (z_up G 78 B') s) ∧ ∀ a : Int, 0 ≤ a → a < 2 ^ c → B' a = B0 a ∧ B' (a + 2 ^ c) = B0 a + ch
  | 0, x, B, h0, h, h1, h2 => by
    have es := i_shl1 c (by omega)
    have p2 : (1 : Int) ≤ 2 ^ c ∧ (2 : Int) ^ c ≤ 16 := by
      have q : ∀ k : Nat, k < 5 → (1 : Int) ≤ 2 ^ k ∧ (2 : Int) ^ k ≤ 16 := by decide
      exact q c hc
    have cc : (x < 2 ^ c) = False := eq_false (by omega)
    refine ⟨B, ?_, fun a e f => ⟨h1 a e f, h2 a e (by omega)⟩⟩
    rw [e_Ga_takeSide_114]
    simp -implicitDefEqProofs (disch := first | assumption | omega | rfl | (simp only [z_up_eq, z_up_app, ↓reduceIte, Nat.reduceEqDiff]; omega)) only [z_lit0, z_lit1, z_lit2, z_litl, iI_add, iI_sub, iI_mul, iI_neg, iI_and, iI_or, iI_xor, iI_shl, iI_shr, iI_ushr, iI_div, iI_b, iI_c, iI_i2l, lI_l2i, lI_add, lI_sub, lI_mul, lI_neg, lI_div, lI_or, lI_and, lI_shl, lI_shr, nI_iI, lg_lt0, lg_gt0, lg_eq0, i_ne0', l_ne0', iI_lt, iI_le, iI_eq, lI_lt, lI_le, lI_eq, zb_0, zb_fit, zb_fit0, zb_fit1, i_one_zero, i_w_in, z_tb0, z_tb1, z_tb2, z_tb3, z_tb4, z_tb5, z_tb6, z_tb7, z_tb8, z_tbl, z_tu0, z_tu1, z_tu2, z_i_62, z_i_63, z_i_86, z_i_88, z_l_Y, z_ui_62, z_ui_63, z_ui_86, z_ui_88, z_ul_Y, z_sz_Y, z_sw_Y, iI_nat, z_ix_t, z_at, Int.add_zero, Int.sub_zero, Int.zero_add, Int.mul_zero, ne_eq, Bool.false_eq_true, Bool.true_eq_false, reduceCtorEq, eq_self, and_true, true_and, and_false, false_and, and_self, not_true_eq_false, not_false_eq_true, decide_true, decide_false, ↓reduceIte, Int.reduceEq, Int.reduceNe, Int.reduceLT, Int.reduceLE, Int.reduceAdd, Int.reduceSub, Int.reduceMul, Int.reduceNeg, Nat.reduceAdd, Nat.reduceEqDiff, Nat.reduceBEq, ↓z_x_eq, z_g_t, z_bI_s, z_bL_s, z_bR_s, z_bV_s, Int.cast_ofNat_Int, beq_self_eq_true, Bool.and_true, Bool.true_and, Bool.and_self, Bool.or_true, Bool.true_or, Bool.false_and, Bool.and_false, Bool.false_or, Bool.or_false, Bool.not_false, Bool.not_true, if_true, if_false, ite_true, ite_false, z_up_eq, z_up_app, z_ro_eq, es, cc]
  | m + 1, x, B, h0, h, h1, h2 => by
    have es := i_shl1 c (by omega)
    have p2 : (1 : Int) ≤ 2 ^ c ∧ (2 : Int) ^ c ≤ 16 := by
      have q : ∀ k : Nat, k < 5 → (1 : Int) ≤ 2 ^ k ∧ (2 : Int) ^ k ≤ 16 := by decide
      exact q c hc
    have cc : (x < 2 ^ c) = True := eq_true (by omega)
    have bx := h1 x h0 (by omega)
    obtain ⟨B', ih, k⟩ := p_ts_114_78 d T G s (bl := bl) (be := be) (ch := ch) (p := p) (B0 := B0) hc m (x + 1) (z_ro B (x + 2 ^ c) (B0 x + ch)) (by omega) (by omega) (fun a e f => by rw [z_ro_ne _ _ (by omega)]; exact h1 a e f) (fun a e f => by
      by_cases q : a = x
      · rw [q, z_ro_eq]
      · rw [z_ro_ne _ _ (by omega)]; exact h2 a e (by omega))
    refine ⟨B', ?_, k⟩
    rw [← ih, e_Ga_takeSide_114]
    simp -implicitDefEqProofs (disch := first | assumption | omega | rfl | (simp only [z_up_eq, z_up_app, ↓reduceIte, Nat.reduceEqDiff]; omega)) only [z_lit0, z_lit1, z_lit2, z_litl, iI_add, iI_sub, iI_mul, iI_neg, iI_and, iI_or, iI_xor, iI_shl, iI_shr, iI_ushr, iI_div, iI_b, iI_c, iI_i2l, lI_l2i, lI_add, lI_sub, lI_mul, lI_neg, lI_div, lI_or, lI_and, lI_shl, lI_shr, nI_iI, lg_lt0, lg_gt0, lg_eq0, i_ne0', l_ne0', iI_lt, iI_le, iI_eq, lI_lt, lI_le, lI_eq, zb_0, zb_fit, zb_fit0, zb_fit1, i_one_zero, i_w_in, z_tb0, z_tb1, z_tb2, z_tb3, z_tb4, z_tb5, z_tb6, z_tb7, z_tb8, z_tbl, z_tu0, z_tu1, z_tu2, z_i_62, z_i_63, z_i_86, z_i_88, z_l_Y, z_ui_62, z_ui_63, z_ui_86, z_ui_88, z_ul_Y, z_sz_Y, z_sw_Y, iI_nat, z_ix_t, z_at, Int.add_zero, Int.sub_zero, Int.zero_add, Int.mul_zero, ne_eq, Bool.false_eq_true, Bool.true_eq_false, reduceCtorEq, eq_self, and_true, true_and, and_false, false_and, and_self, not_true_eq_false, not_false_eq_true, decide_true, decide_false, ↓reduceIte, Int.reduceEq, Int.reduceNe, Int.reduceLT, Int.reduceLE, Int.reduceAdd, Int.reduceSub, Int.reduceMul, Int.reduceNeg, Nat.reduceAdd, Nat.reduceEqDiff, Nat.reduceBEq, ↓z_x_eq, z_g_t, z_bI_s, z_bL_s, z_bR_s, z_bV_s, Int.cast_ofNat_Int, beq_self_eq_true, Bool.and_true, Bool.true_and, Bool.and_self, Bool.or_true, Bool.true_or, Bool.false_and, Bool.and_false, Bool.false_or, Bool.or_false, Bool.not_false, Bool.not_true, if_true, if_false, ite_true, ite_false, z_up_eq, z_up_app, z_ro_eq, es, cc, bx, z_up_up]
theorem p_ts_10_78 (d : Nat) (T : ZT) (G : ZG) {bl be : Int} (hQ : c_q T G) (hbe : 0 ≤ be ∧ be ≤ 20000) (hbl : i_in bl) : ∀ (m : Nat) (p : Int) (c : Nat) (W B : Int → Int) (s : ZG × ZG), 0 ≤ p → p + m = G 81 1 → c ≤ 5 → t_inv (G 81) (G 83) be B W c → ∃ B' s', z_w d_Ga_takeSide (z_call (d + 5)) 10 [some (vr 70), some (vi (iI bl)), some (vi (iI be)), some (vr 78), some (vr 76), some (vi (iI c)), some (vi (iI p)), none, none, none] [] (z_Y T (z_up (z_up G 76 W) 78 B) s) = some (vi (iI (s_ly (s_sd (G 81) bl) 0 m p c W).1), z_Y T (z_up (z_up G 76 (s_ly (s_sd (G 81) bl) 0 m p c W).2) 78 B') s') ∧ t_inv (G 81) (G 83) be B' (s_ly (s_sd (G 81) bl) 0 m p c W).2 (s_ly (s_sd (G 81) bl) 0 m p c W).1.toNat
  | 0, p, c, W, B, s, h0, h, hc, hi => by
    have q1 := (dw_h hQ.1).2.1
    have m1 := hQ.1.1.2.1
    have cc : (p < G 81 1) = False := eq_false (by omega)
    refine ⟨B, s, ?_, by show t_inv _ _ _ _ W ((c : Int)).toNat; rw [show ((c : Int)).toNat = c by omega]; exact hi⟩
    show _ = some (vi (iI c), z_Y T (z_up (z_up G 76 W) 78 B) s)
    rw [e_Ga_takeSide_10]
    simp -implicitDefEqProofs (disch := first | assumption | omega | rfl | (simp only [z_up_eq, z_up_app, ↓reduceIte, Nat.reduceEqDiff]; omega)) only [z_lit0, z_lit1, z_lit2, z_litl, iI_add, iI_sub, iI_mul, iI_neg, iI_and, iI_or, iI_xor, iI_shl, iI_shr, iI_ushr, iI_div, iI_b, iI_c, iI_i2l, lI_l2i, lI_add, lI_sub, lI_mul, lI_neg, lI_div, lI_or, lI_and, lI_shl, lI_shr, nI_iI, lg_lt0, lg_gt0, lg_eq0, i_ne0', l_ne0', iI_lt, iI_le, iI_eq, lI_lt, lI_le, lI_eq, zb_0, zb_fit, zb_fit0, zb_fit1, i_one_zero, i_w_in, z_tb0, z_tb1, z_tb2, z_tb3, z_tb4, z_tb5, z_tb6, z_tb7, z_tb8, z_tbl, z_tu0, z_tu1, z_tu2, z_i_62, z_i_63, z_i_86, z_i_88, z_l_Y, z_ui_62, z_ui_63, z_ui_86, z_ui_88, z_ul_Y, z_sz_Y, z_sw_Y, iI_nat, z_ix_t, z_at, Int.add_zero, Int.sub_zero, Int.zero_add, Int.mul_zero, ne_eq, Bool.false_eq_true, Bool.true_eq_false, reduceCtorEq, eq_self, and_true, true_and, and_false, false_and, and_self, not_true_eq_false, not_false_eq_true, decide_true, decide_false, ↓reduceIte, Int.reduceEq, Int.reduceNe, Int.reduceLT, Int.reduceLE, Int.reduceAdd, Int.reduceSub, Int.reduceMul, Int.reduceNeg, Nat.reduceAdd, Nat.reduceEqDiff, Nat.reduceBEq, ↓z_x_eq, z_g_t, z_bI_s, z_bL_s, z_bR_s, z_bV_s, Int.cast_ofNat_Int, beq_self_eq_true, Bool.and_true, Bool.true_and, Bool.and_self, Bool.or_true, Bool.true_or, Bool.false_and, Bool.and_false, Bool.false_or, Bool.or_false, Bool.not_false, Bool.not_true, if_true, if_false, ite_true, ite_false, z_up_eq, z_up_app, z_ro_eq, q1, cc]
  | m + 1, p, c, W, B, s, h0, h, hc, hi => by
    have q1 := (dw_h hQ.1).2.1
    have m1 := hQ.1.1.2.1
    have m0 := hQ.1.1.1
    have cc : (p < G 81 1) = True := eq_true (by omega)
    have mp := mo_p hQ.1.1 p h0 (by omega)
    have o1 := (dw_o hQ.1 p h0 (by omega)).1
    have o2 := (dw_o hQ.1 p h0 (by omega)).2
    have u := (dw_m hQ.1).1
    have e : ∀ P, s_ly P 0 (m + 1) p c W = cond (P p && decide ((c : Int) < 5)) (s_ly P 0 m (p + 1) (c + 1) (z_ro W (0 + c) p)) (s_ly P 0 m (p + 1) c W) := fun P => rfl
    by_cases c5 : c = 5
    · have e5 : s_ly (s_sd (G 81) bl) 0 (m + 1) p c W = (5, W) := by rw [c5]; exact s_ly_5 _ _ _ _ _
      rw [e5]
      have c5' : ((c : Int) < 5) = False := eq_false (by omega)
      refine ⟨B, s, ?_, by show t_inv _ _ _ _ W (5 : Int).toNat; rw [show (5 : Int).toNat = c by omega]; exact hi⟩
      show _ = some (vi (iI 5), z_Y T (z_up (z_up G 76 W) 78 B) s)
      rw [e_Ga_takeSide_10]
      simp -implicitDefEqProofs (disch := first | assumption | omega | rfl | (simp only [z_up_eq, z_up_app, ↓reduceIte, Nat.reduceEqDiff]; omega)) only [z_lit0, z_lit1, z_lit2, z_litl, iI_add, iI_sub, iI_mul, iI_neg, iI_and, iI_or, iI_xor, iI_shl, iI_shr, iI_ushr, iI_div, iI_b, iI_c, iI_i2l, lI_l2i, lI_add, lI_sub, lI_mul, lI_neg, lI_div, lI_or, lI_and, lI_shl, lI_shr, nI_iI, lg_lt0, lg_gt0, lg_eq0, i_ne0', l_ne0', iI_lt, iI_le, iI_eq, lI_lt, lI_le, lI_eq, zb_0, zb_fit, zb_fit0, zb_fit1, i_one_zero, i_w_in, z_tb0, z_tb1, z_tb2, z_tb3, z_tb4, z_tb5, z_tb6, z_tb7, z_tb8, z_tbl, z_tu0, z_tu1, z_tu2, z_i_62, z_i_63, z_i_86, z_i_88, z_l_Y, z_ui_62, z_ui_63, z_ui_86, z_ui_88, z_ul_Y, z_sz_Y, z_sw_Y, iI_nat, z_ix_t, z_at, Int.add_zero, Int.sub_zero, Int.zero_add, Int.mul_zero, ne_eq, Bool.false_eq_true, Bool.true_eq_false, reduceCtorEq, eq_self, and_true, true_and, and_false, false_and, and_self, not_true_eq_false, not_false_eq_true, decide_true, decide_false, ↓reduceIte, Int.reduceEq, Int.reduceNe, Int.reduceLT, Int.reduceLE, Int.reduceAdd, Int.reduceSub, Int.reduceMul, Int.reduceNeg, Nat.reduceAdd, Nat.reduceEqDiff, Nat.reduceBEq, ↓z_x_eq, z_g_t, z_bI_s, z_bL_s, z_bR_s, z_bV_s, Int.cast_ofNat_Int, beq_self_eq_true, Bool.and_true, Bool.true_and, Bool.and_self, Bool.or_true, Bool.true_or, Bool.false_and, Bool.and_false, Bool.false_or, Bool.or_false, Bool.not_false, Bool.not_true, if_true, if_false, ite_true, ite_false, z_up_eq, z_up_app, z_ro_eq, q1, cc, c5']
      rw [c5]; rfl
    · have c5' : ((c : Int) < 5) = True := eq_true (by omega)
      rw [e, decide_eq_true (show (c : Int) < 5 by omega), Bool.and_true]
      by_cases c1 : G 81 (32 + 5 * p + 3) = -1
      · have hP : s_sd (G 81) bl p = false := decide_eq_false (fun q => q.1 c1)
        rw [hP]
        obtain ⟨B', s', ih, k⟩ := p_ts_10_78 d T G (bl := bl) (be := be) hQ hbe hbl m (p + 1) c W B s (by omega) (by omega) hc hi
        refine ⟨B', s', ?_, k⟩
        refine Eq.trans ?_ ih
        rw [e_Ga_takeSide_10]
        simp -implicitDefEqProofs (disch := first | assumption | omega | rfl | (simp only [z_up_eq, z_up_app, ↓reduceIte, Nat.reduceEqDiff]; omega)) only [z_lit0, z_lit1, z_lit2, z_litl, iI_add, iI_sub, iI_mul, iI_neg, iI_and, iI_or, iI_xor, iI_shl, iI_shr, iI_ushr, iI_div, iI_b, iI_c, iI_i2l, lI_l2i, lI_add, lI_sub, lI_mul, lI_neg, lI_div, lI_or, lI_and, lI_shl, lI_shr, nI_iI, lg_lt0, lg_gt0, lg_eq0, i_ne0', l_ne0', iI_lt, iI_le, iI_eq, lI_lt, lI_le, lI_eq, zb_0, zb_fit, zb_fit0, zb_fit1, i_one_zero, i_w_in, z_tb0, z_tb1, z_tb2, z_tb3, z_tb4, z_tb5, z_tb6, z_tb7, z_tb8, z_tbl, z_tu0, z_tu1, z_tu2, z_i_62, z_i_63, z_i_86, z_i_88, z_l_Y, z_ui_62, z_ui_63, z_ui_86, z_ui_88, z_ul_Y, z_sz_Y, z_sw_Y, iI_nat, z_ix_t, z_at, Int.add_zero, Int.sub_zero, Int.zero_add, Int.mul_zero, ne_eq, Bool.false_eq_true, Bool.true_eq_false, reduceCtorEq, eq_self, and_true, true_and, and_false, false_and, and_self, not_true_eq_false, not_false_eq_true, decide_true, decide_false, ↓reduceIte, Int.reduceEq, Int.reduceNe, Int.reduceLT, Int.reduceLE, Int.reduceAdd, Int.reduceSub, Int.reduceMul, Int.reduceNeg, Nat.reduceAdd, Nat.reduceEqDiff, Nat.reduceBEq, ↓z_x_eq, z_g_t, z_bI_s, z_bL_s, z_bR_s, z_bV_s, Int.cast_ofNat_Int, beq_self_eq_true, Bool.and_true, Bool.true_and, Bool.and_self, Bool.or_true, Bool.true_or, Bool.false_and, Bool.and_false, Bool.false_or, Bool.or_false, Bool.not_false, Bool.not_true, if_true, if_false, ite_true, ite_false, z_up_eq, z_up_app, z_ro_eq, q1, cc, c5', o1, c1]
      · have bk := (dw_s hQ.1 (G 81 (32 + 5 * p + 3)) (by omega) (by omega)).1
        have msx := mo_s hQ.1.1 (G 81 (32 + 5 * p + 3)) (by omega) (by omega)
        by_cases c3 : G 81 (12 + 2 * G 81 (32 + 5 * p + 3)) = bl
        · have c3' : (G 81 (12 + 2 * G 81 (32 + 5 * p + 3)) = bl) = True := eq_true c3
          by_cases c2 : G 81 (32 + 5 * p + 4) = 1
          · have hP : s_sd (G 81) bl p = false := decide_eq_false (fun q => q.2.1 c2)
            rw [hP]
            obtain ⟨B', s', ih, k⟩ := p_ts_10_78 d T G (bl := bl) (be := be) hQ hbe hbl m (p + 1) c W B s (by omega) (by omega) hc hi
            refine ⟨B', s', ?_, k⟩
            refine Eq.trans ?_ ih
            rw [e_Ga_takeSide_10]
            simp -implicitDefEqProofs (disch := first | assumption | omega | rfl | (simp only [z_up_eq, z_up_app, ↓reduceIte, Nat.reduceEqDiff]; omega)) only [z_lit0, z_lit1, z_lit2, z_litl, iI_add, iI_sub, iI_mul, iI_neg, iI_and, iI_or, iI_xor, iI_shl, iI_shr, iI_ushr, iI_div, iI_b, iI_c, iI_i2l, lI_l2i, lI_add, lI_sub, lI_mul, lI_neg, lI_div, lI_or, lI_and, lI_shl, lI_shr, nI_iI, lg_lt0, lg_gt0, lg_eq0, i_ne0', l_ne0', iI_lt, iI_le, iI_eq, lI_lt, lI_le, lI_eq, zb_0, zb_fit, zb_fit0, zb_fit1, i_one_zero, i_w_in, z_tb0, z_tb1, z_tb2, z_tb3, z_tb4, z_tb5, z_tb6, z_tb7, z_tb8, z_tbl, z_tu0, z_tu1, z_tu2, z_i_62, z_i_63, z_i_86, z_i_88, z_l_Y, z_ui_62, z_ui_63, z_ui_86, z_ui_88, z_ul_Y, z_sz_Y, z_sw_Y, iI_nat, z_ix_t, z_at, Int.add_zero, Int.sub_zero, Int.zero_add, Int.mul_zero, ne_eq, Bool.false_eq_true, Bool.true_eq_false, reduceCtorEq, eq_self, and_true, true_and, and_false, false_and, and_self, not_true_eq_false, not_false_eq_true, decide_true, decide_false, ↓reduceIte, Int.reduceEq, Int.reduceNe, Int.reduceLT, Int.reduceLE, Int.reduceAdd, Int.reduceSub, Int.reduceMul, Int.reduceNeg, Nat.reduceAdd, Nat.reduceEqDiff, Nat.reduceBEq, ↓z_x_eq, z_g_t, z_bI_s, z_bL_s, z_bR_s, z_bV_s, Int.cast_ofNat_Int, beq_self_eq_true, Bool.and_true, Bool.true_and, Bool.and_self, Bool.or_true, Bool.true_or, Bool.false_and, Bool.and_false, Bool.false_or, Bool.or_false, Bool.not_false, Bool.not_true, if_true, if_false, ite_true, ite_false, z_up_eq, z_up_app, z_ro_eq, q1, cc, c5', o1, c1, bk, c3', o2, c2]
          · have hP : s_sd (G 81) bl p = true := decide_eq_true ⟨c1, c2, c3⟩
            rw [hP]
            have hQ' : c_q T (z_up (z_up G 76 W) 78 B) := cq_eq hQ (fun r a => by rw [z_up_ne _ _ (by omega), z_up_ne _ _ (by omega)])
            have e81 : z_up (z_up G 76 W) 78 B 81 = G 81 := by rw [z_up_ne _ _ (by omega), z_up_ne _ _ (by omega)]
            have e83 : z_up (z_up G 76 W) 78 B 83 = G 83 := by rw [z_up_ne _ _ (by omega), z_up_ne _ _ (by omega)]
            obtain ⟨v1, τ1, b1, r1, s1, r2⟩ := p_coth d T (z_up (z_up G 76 W) 78 B) s (p := p) (b := be) (us := G 81 8) hQ' (by rw [e81]; omega) hbe
            rw [r1, r2, e81, e83, show m_oth (G 81 (32 + 5 * p + 4)) = 1 from if_neg c2] at b1
            obtain ⟨v2, τ2, b2, r3, s2, r4⟩ := p_cbreathNow d T (z_up (z_up G 76 W) 78 B) s1 (p := p) (b := be) hQ' (by rw [e81]; omega) hbe
            rw [r3, r4, e81, e83] at b2
            obtain ⟨B1, e1, k1⟩ := p_ts_114_78 (d + 5) T (z_up G 76 (z_ro W c p)) s2 (bl := bl) (be := be) (ch := g_ch (G 81) (G 83) be p) (p := p) (c := c) (B0 := B) (by omega) (2 ^ c) 0 B (by omega) (by simp) (fun _ _ _ => rfl) (fun a _ _ => by omega)
            obtain ⟨B', s', ih, k⟩ := p_ts_10_78 d T G (bl := bl) (be := be) hQ hbe hbl m (p + 1) (c + 1) (z_ro W (0 + c) p) B1 s2 (by omega) (by omega) (by omega) (t_inv_up (by omega) hi k1)
            rw [show ((c + 1 : Nat) : Int) = (c : Int) + 1 by omega] at ih k
            refine ⟨B', s', ?_, k⟩
            refine Eq.trans ?_ ih
            rw [show (0 : Int) + c = c by omega, ← e1, e_Ga_takeSide_10]
            unfold g_ch
            simp -implicitDefEqProofs (disch := first | assumption | omega | rfl | (simp only [z_up_eq, z_up_app, ↓reduceIte, Nat.reduceEqDiff]; omega)) only [z_lit0, z_lit1, z_lit2, z_litl, iI_add, iI_sub, iI_mul, iI_neg, iI_and, iI_or, iI_xor, iI_shl, iI_shr, iI_ushr, iI_div, iI_b, iI_c, iI_i2l, lI_l2i, lI_add, lI_sub, lI_mul, lI_neg, lI_div, lI_or, lI_and, lI_shl, lI_shr, nI_iI, lg_lt0, lg_gt0, lg_eq0, i_ne0', l_ne0', iI_lt, iI_le, iI_eq, lI_lt, lI_le, lI_eq, zb_0, zb_fit, zb_fit0, zb_fit1, i_one_zero, i_w_in, z_tb0, z_tb1, z_tb2, z_tb3, z_tb4, z_tb5, z_tb6, z_tb7, z_tb8, z_tbl, z_tu0, z_tu1, z_tu2, z_i_62, z_i_63, z_i_86, z_i_88, z_l_Y, z_ui_62, z_ui_63, z_ui_86, z_ui_88, z_ul_Y, z_sz_Y, z_sw_Y, iI_nat, z_ix_t, z_at, Int.add_zero, Int.sub_zero, Int.zero_add, Int.mul_zero, ne_eq, Bool.false_eq_true, Bool.true_eq_false, reduceCtorEq, eq_self, and_true, true_and, and_false, false_and, and_self, not_true_eq_false, not_false_eq_true, decide_true, decide_false, ↓reduceIte, Int.reduceEq, Int.reduceNe, Int.reduceLT, Int.reduceLE, Int.reduceAdd, Int.reduceSub, Int.reduceMul, Int.reduceNeg, Nat.reduceAdd, Nat.reduceEqDiff, Nat.reduceBEq, ↓z_x_eq, z_g_t, z_bI_s, z_bL_s, z_bR_s, z_bV_s, Int.cast_ofNat_Int, beq_self_eq_true, Bool.and_true, Bool.true_and, Bool.and_self, Bool.or_true, Bool.true_or, Bool.false_and, Bool.and_false, Bool.false_or, Bool.or_false, Bool.not_false, Bool.not_true, if_true, if_false, ite_true, ite_false, z_up_eq, z_up_app, z_ro_eq, q1, cc, c5', o1, c1, bk, c3', o2, c2, u, b1, b2, z_up_up, z_up_cm]
        · have hP : s_sd (G 81) bl p = false := decide_eq_false (fun q => c3 q.2.2)
          rw [hP]
          obtain ⟨B', s', ih, k⟩ := p_ts_10_78 d T G (bl := bl) (be := be) hQ hbe hbl m (p + 1) c W B s (by omega) (by omega) hc hi
          refine ⟨B', s', ?_, k⟩
          refine Eq.trans ?_ ih
          rw [e_Ga_takeSide_10]
          simp -implicitDefEqProofs (disch := first | assumption | omega | rfl | (simp only [z_up_eq, z_up_app, ↓reduceIte, Nat.reduceEqDiff]; omega)) only [z_lit0, z_lit1, z_lit2, z_litl, iI_add, iI_sub, iI_mul, iI_neg, iI_and, iI_or, iI_xor, iI_shl, iI_shr, iI_ushr, iI_div, iI_b, iI_c, iI_i2l, lI_l2i, lI_add, lI_sub, lI_mul, lI_neg, lI_div, lI_or, lI_and, lI_shl, lI_shr, nI_iI, lg_lt0, lg_gt0, lg_eq0, i_ne0', l_ne0', iI_lt, iI_le, iI_eq, lI_lt, lI_le, lI_eq, zb_0, zb_fit, zb_fit0, zb_fit1, i_one_zero, i_w_in, z_tb0, z_tb1, z_tb2, z_tb3, z_tb4, z_tb5, z_tb6, z_tb7, z_tb8, z_tbl, z_tu0, z_tu1, z_tu2, z_i_62, z_i_63, z_i_86, z_i_88, z_l_Y, z_ui_62, z_ui_63, z_ui_86, z_ui_88, z_ul_Y, z_sz_Y, z_sw_Y, iI_nat, z_ix_t, z_at, Int.add_zero, Int.sub_zero, Int.zero_add, Int.mul_zero, ne_eq, Bool.false_eq_true, Bool.true_eq_false, reduceCtorEq, eq_self, and_true, true_and, and_false, false_and, and_self, not_true_eq_false, not_false_eq_true, decide_true, decide_false, ↓reduceIte, Int.reduceEq, Int.reduceNe, Int.reduceLT, Int.reduceLE, Int.reduceAdd, Int.reduceSub, Int.reduceMul, Int.reduceNeg, Nat.reduceAdd, Nat.reduceEqDiff, Nat.reduceBEq, ↓z_x_eq, z_g_t, z_bI_s, z_bL_s, z_bR_s, z_bV_s, Int.cast_ofNat_Int, beq_self_eq_true, Bool.and_true, Bool.true_and, Bool.and_self, Bool.or_true, Bool.true_or, Bool.false_and, Bool.and_false, Bool.false_or, Bool.or_false, Bool.not_false, Bool.not_true, if_true, if_false, ite_true, ite_false, z_up_eq, z_up_app, z_ro_eq, q1, cc, c5', o1, c1, bk, c3]
theorem p_side_78 (d : Nat) (T : ZT) (G : ZG) (s : ZG × ZG) {bl be : Int} (hQ : c_q T G) (hbe : 0 ≤ be ∧ be ≤ 20000) (hbl : i_in bl) : ∃ W B s', z_call (d + 6) 286 [vr 70, vi (iI bl), vi (iI be), vr 78, vr 76] (z_Y T G s) = some (vi (iI (s_cn (G 81) bl)), z_Y T (z_up (z_up G 76 W) 78 B) s') ∧ (∀ k, 0 ≤ k → k < s_cn (G 81) bl → W k = s_li (G 81) bl k) ∧ ∀ a : Int, 0 ≤ a → a < 2 ^ (s_cn (G 81) bl).toNat → B a = g_su (G 81) (G 83) (s_li (G 81) bl) be (s_cn (G 81) bl).toNat a := by
  have m1 := hQ.1.1.2.1
  have hc := s_cn_in (G 81) bl
  obtain ⟨B', s', e, k⟩ := p_ts_10_78 d T G (bl := bl) (be := be) hQ hbe hbl (G 81 1).toNat 0 0 (G 76) (z_ro (G 78) 0 0) s (by omega) (by omega) (by omega) (fun a q0 q1 => by
    have : a = 0 := by have q1' : a < 1 := q1; omega
    rw [this, z_ro_eq]; rfl)
  rw [show ((0 : Nat) : Int) = 0 from rfl] at e k
  have c1 : (s_ly (s_sd (G 81) bl) 0 (G 81 1).toNat 0 0 (G 76)).1 = s_cn (G 81) bl := s_ly_c _ _ _ _ _ _ _ _
  have a1 := s_ly_ag (s_sd (G 81) bl) 0 0 (G 81 1).toNat 0 0 (G 76) (fun _ => 0) (fun k a b => by omega)
  rw [c1] at e k a1
  have aW : ∀ k, 0 ≤ k → k < s_cn (G 81) bl → (s_ly (s_sd (G 81) bl) 0 (G 81 1).toNat 0 0 (G 76)).2 k = s_li (G 81) bl k := fun k a b => by
    have := a1 k a b
    rw [Int.zero_add] at this
    rw [this]; unfold s_li; rw [Int.zero_add]
  refine ⟨_, B', s', ?_, aW, fun a q0 q1 => ?_⟩
  · have eu : z_up (z_up G 76 (G 76)) 78 (z_ro (G 78) 0 0) = z_up G 78 (z_ro (G 78) 0 0) := by rw [z_up_id]
    rw [eu] at e
    rw [e_Ga_takeSide]
    simp -implicitDefEqProofs (disch := first | assumption | omega | rfl | (simp only [z_up_eq, z_up_app, ↓reduceIte, Nat.reduceEqDiff]; omega)) only [z_lit0, z_lit1, z_lit2, z_litl, iI_add, iI_sub, iI_mul, iI_neg, iI_and, iI_or, iI_xor, iI_shl, iI_shr, iI_ushr, iI_div, iI_b, iI_c, iI_i2l, lI_l2i, lI_add, lI_sub, lI_mul, lI_neg, lI_div, lI_or, lI_and, lI_shl, lI_shr, nI_iI, lg_lt0, lg_gt0, lg_eq0, i_ne0', l_ne0', iI_lt, iI_le, iI_eq, lI_lt, lI_le, lI_eq, zb_0, zb_fit, zb_fit0, zb_fit1, i_one_zero, i_w_in, z_tb0, z_tb1, z_tb2, z_tb3, z_tb4, z_tb5, z_tb6, z_tb7, z_tb8, z_tbl, z_tu0, z_tu1, z_tu2, z_i_62, z_i_63, z_i_86, z_i_88, z_l_Y, z_ui_62, z_ui_63, z_ui_86, z_ui_88, z_ul_Y, z_sz_Y, z_sw_Y, iI_nat, z_ix_t, z_at, Int.add_zero, Int.sub_zero, Int.zero_add, Int.mul_zero, ne_eq, Bool.false_eq_true, Bool.true_eq_false, reduceCtorEq, eq_self, and_true, true_and, and_false, false_and, and_self, not_true_eq_false, not_false_eq_true, decide_true, decide_false, ↓reduceIte, Int.reduceEq, Int.reduceNe, Int.reduceLT, Int.reduceLE, Int.reduceAdd, Int.reduceSub, Int.reduceMul, Int.reduceNeg, Nat.reduceAdd, Nat.reduceEqDiff, Nat.reduceBEq, ↓z_x_eq, z_g_t, z_bI_s, z_bL_s, z_bR_s, z_bV_s, Int.cast_ofNat_Int, beq_self_eq_true, Bool.and_true, Bool.true_and, Bool.and_self, Bool.or_true, Bool.true_or, Bool.false_and, Bool.and_false, Bool.false_or, Bool.or_false, Bool.not_false, Bool.not_true, if_true, if_false, ite_true, ite_false, z_up_eq, z_up_app, z_ro_eq, e]
  · rw [k a q0 q1]
    unfold g_su
    refine z_sum_eq _ _ (fun j e1 e2 => ?_)
    rw [aW j e1 (by omega)]
theorem p_ts_114_77 (d : Nat) (T : ZT) (G : ZG) (s : ZG × ZG) {bl be ch p : Int} {c : Nat} {B0 : Int → Int} (hc : c < 5) : ∀ (m : Nat) (x : Int) (B : Int → Int), 0 ≤ x → x + m = 2 ^ c → (∀ a : Int, 0 ≤ a → a < 2 ^ c → B a = B0 a) → (∀ a : Int, 0 ≤ a → a < x → B (a + 2 ^ c) = B0 a + ch) → ∃ B', z_w d_Ga_takeSide (z_call d) 114 [some (vr 70), some (vi (iI bl)), some (vi (iI be)), some (vr 77), some (vr 71), some (vi (iI c)), some (vi (iI p)), none, some (vi (iI ch)), some (vi (iI x))] [] (z_Y T (z_up G 77 B) s) = z_w d_Ga_takeSide (z_call d) 10 [some (vr 70), some (vi (iI bl)), some (vi (iI be)), some (vr 77), some (vr 71), some (vi (iI ((c : Int) + 1))), some (vi (iI (p + 1))), none, none, none] [] (z_Y T (z_up G 77 B') s) ∧ ∀ a : Int, 0 ≤ a → a < 2 ^ c → B' a = B0 a ∧ B' (a + 2 ^ c) = B0 a + ch
  | 0, x, B, h0, h, h1, h2 => by
    have es := i_shl1 c (by omega)
    have p2 : (1 : Int) ≤ 2 ^ c ∧ (2 : Int) ^ c ≤ 16 := by
      have q : ∀ k : Nat, k < 5 → (1 : Int) ≤ 2 ^ k ∧ (2 : Int) ^ k ≤ 16 := by decide
      exact q c hc
    have cc : (x < 2 ^ c) = False := eq_false (by omega)
    refine ⟨B, ?_, fun a e f => ⟨h1 a e f, h2 a e (by omega)⟩⟩
    rw [e_Ga_takeSide_114]
    simp -implicitDefEqProofs (disch := first | assumption | omega | rfl | (simp only [z_up_eq, z_up_app, ↓reduceIte, Nat.reduceEqDiff]; omega)) only [z_lit0, z_lit1, z_lit2, z_litl, iI_add, iI_sub, iI_mul, iI_neg, iI_and, iI_or, iI_xor, iI_shl, iI_shr, iI_ushr, iI_div, iI_b, iI_c, iI_i2l, lI_l2i, lI_add, lI_sub, lI_mul, lI_neg, lI_div, lI_or, lI_and, lI_shl, lI_shr, nI_iI, lg_lt0, lg_gt0, lg_eq0, i_ne0', l_ne0', iI_lt, iI_le, iI_eq, lI_lt, lI_le, lI_eq, zb_0, zb_fit, zb_fit0, zb_fit1, i_one_zero, i_w_in, z_tb0, z_tb1, z_tb2, z_tb3, z_tb4, z_tb5, z_tb6, z_tb7, z_tb8, z_tbl, z_tu0, z_tu1, z_tu2, z_i_62, z_i_63, z_i_86, z_i_88, z_l_Y, z_ui_62, z_ui_63, z_ui_86, z_ui_88, z_ul_Y, z_sz_Y, z_sw_Y, iI_nat, z_ix_t, z_at, Int.add_zero, Int.sub_zero, Int.zero_add, Int.mul_zero, ne_eq, Bool.false_eq_true, Bool.true_eq_false, reduceCtorEq, eq_self, and_true, true_and, and_false, false_and, and_self, not_true_eq_false, not_false_eq_true, decide_true, decide_false, ↓reduceIte, Int.reduceEq, Int.reduceNe, Int.reduceLT, Int.reduceLE, Int.reduceAdd, Int.reduceSub, Int.reduceMul, Int.reduceNeg, Nat.reduceAdd, Nat.reduceEqDiff, Nat.reduceBEq, ↓z_x_eq, z_g_t, z_bI_s, z_bL_s, z_bR_s, z_bV_s, Int.cast_ofNat_Int, beq_self_eq_true, Bool.and_true, Bool.true_and, Bool.and_self, Bool.or_true, Bool.true_or, Bool.false_and, Bool.and_false, Bool.false_or, Bool.or_false, Bool.not_false, Bool.not_true, if_true, if_false, ite_true, ite_false, z_up_eq, z_up_app, z_ro_eq, es, cc]
  | m + 1, x, B, h0, h, h1, h2 => by
    have es := i_shl1 c (by omega)
    have p2 : (1 : Int) ≤ 2 ^ c ∧ (2 : Int) ^ c ≤ 16 := by
      have q : ∀ k : Nat, k < 5 → (1 : Int) ≤ 2 ^ k ∧ (2 : Int) ^ k ≤ 16 := by decide
      exact q c hc
    have cc : (x < 2 ^ c) = True := eq_true (by omega)
    have bx := h1 x h0 (by omega)
    obtain ⟨B', ih, k⟩ := p_ts_114_77 d T G s (bl := bl) (be := be) (ch := ch) (p := p) (B0 := B0) hc m (x + 1) (z_ro B (x + 2 ^ c) (B0 x + ch)) (by omega) (by omega) (fun a e f => by rw [z_ro_ne _ _ (by omega)]; exact h1 a e f) (fun a e f => by
      by_cases q : a = x
      · rw [q, z_ro_eq]
      · rw [z_ro_ne _ _ (by omega)]; exact h2 a e (by omega))
    refine ⟨B', ?_, k⟩
    rw [← ih, e_Ga_takeSide_114]
    simp -implicitDefEqProofs (disch := first | assumption | omega | rfl | (simp only [z_up_eq, z_up_app, ↓reduceIte, Nat.reduceEqDiff]; omega)) only [z_lit0, z_lit1, z_lit2, z_litl, iI_add, iI_sub, iI_mul, iI_neg, iI_and, iI_or, iI_xor, iI_shl, iI_shr, iI_ushr, iI_div, iI_b, iI_c, iI_i2l, lI_l2i, lI_add, lI_sub, lI_mul, lI_neg, lI_div, lI_or, lI_and, lI_shl, lI_shr, nI_iI, lg_lt0, lg_gt0, lg_eq0, i_ne0', l_ne0', iI_lt, iI_le, iI_eq, lI_lt, lI_le, lI_eq, zb_0, zb_fit, zb_fit0, zb_fit1, i_one_zero, i_w_in, z_tb0, z_tb1, z_tb2, z_tb3, z_tb4, z_tb5, z_tb6, z_tb7, z_tb8, z_tbl, z_tu0, z_tu1, z_tu2, z_i_62, z_i_63, z_i_86, z_i_88, z_l_Y, z_ui_62, z_ui_63, z_ui_86, z_ui_88, z_ul_Y, z_sz_Y, z_sw_Y, iI_nat, z_ix_t, z_at, Int.add_zero, Int.sub_zero, Int.zero_add, Int.mul_zero, ne_eq, Bool.false_eq_true, Bool.true_eq_false, reduceCtorEq, eq_self, and_true, true_and, and_false, false_and, and_self, not_true_eq_false, not_false_eq_true, decide_true, decide_false, ↓reduceIte, Int.reduceEq, Int.reduceNe, Int.reduceLT, Int.reduceLE, Int.reduceAdd, Int.reduceSub, Int.reduceMul, Int.reduceNeg, Nat.reduceAdd, Nat.reduceEqDiff, Nat.reduceBEq, ↓z_x_eq, z_g_t, z_bI_s, z_bL_s, z_bR_s, z_bV_s, Int.cast_ofNat_Int, beq_self_eq_true, Bool.and_true, Bool.true_and, Bool.and_self, Bool.or_true, Bool.true_or, Bool.false_and, Bool.and_false, Bool.false_or, Bool.or_false, Bool.not_false, Bool.not_true, if_true, if_false, ite_true, ite_false, z_up_eq, z_up_app, z_ro_eq, es, cc, bx, z_up_up]
theorem p_ts_10_77 (d : Nat) (T : ZT) (G : ZG) {bl be : Int} (hQ : c_q T G) (hbe : 0 ≤ be ∧ be ≤ 20000) (hbl : i_in bl) : ∀ (m : Nat) (p : Int) (c : Nat) (W B : Int → Int) (s : ZG × ZG), 0 ≤ p → p + m = G 81 1 → c ≤ 5 → t_inv (G 81) (G 83) be B W c → ∃ B' s', z_w d_Ga_takeSide (z_call (d + 5)) 10 [some (vr 70), some (vi (iI bl)), some (vi (iI be)), some (vr 77), some (vr 71), some (vi (iI c)), some (vi (iI p)), none, none, none] [] (z_Y T (z_up (z_up G 71 W) 77 B) s) = some (vi (iI (s_ly (s_sd (G 81) bl) 0 m p c W).1), z_Y T (z_up (z_up G 71 (s_ly (s_sd (G 81) bl) 0 m p c W).2) 77 B') s') ∧ t_inv (G 81) (G 83) be B' (s_ly (s_sd (G 81) bl) 0 m p c W).2 (s_ly (s_sd (G 81) bl) 0 m p c W).1.toNat
  | 0, p, c, W, B, s, h0, h, hc, hi => by
    have q1 := (dw_h hQ.1).2.1
    have m1 := hQ.1.1.2.1
    have cc : (p < G 81 1) = False := eq_false (by omega)
    refine ⟨B, s, ?_, by show t_inv _ _ _ _ W ((c : Int)).toNat; rw [show ((c : Int)).toNat = c by omega]; exact hi⟩
    show _ = some (vi (iI c), z_Y T (z_up (z_up G 71 W) 77 B) s)
    rw [e_Ga_takeSide_10]
    simp -implicitDefEqProofs (disch := first | assumption | omega | rfl | (simp only [z_up_eq, z_up_app, ↓reduceIte, Nat.reduceEqDiff]; omega)) only [z_lit0, z_lit1, z_lit2, z_litl, iI_add, iI_sub, iI_mul, iI_neg, iI_and, iI_or, iI_xor, iI_shl, iI_shr, iI_ushr, iI_div, iI_b, iI_c, iI_i2l, lI_l2i, lI_add, lI_sub, lI_mul, lI_neg, lI_div, lI_or, lI_and, lI_shl, lI_shr, nI_iI, lg_lt0, lg_gt0, lg_eq0, i_ne0', l_ne0', iI_lt, iI_le, iI_eq, lI_lt, lI_le, lI_eq, zb_0, zb_fit, zb_fit0, zb_fit1, i_one_zero, i_w_in, z_tb0, z_tb1, z_tb2, z_tb3, z_tb4, z_tb5, z_tb6, z_tb7, z_tb8, z_tbl, z_tu0, z_tu1, z_tu2, z_i_62, z_i_63, z_i_86, z_i_88, z_l_Y, z_ui_62, z_ui_63, z_ui_86, z_ui_88, z_ul_Y, z_sz_Y, z_sw_Y, iI_nat, z_ix_t, z_at, Int.add_zero, Int.sub_zero, Int.zero_add, Int.mul_zero, ne_eq, Bool.false_eq_true, Bool.true_eq_false, reduceCtorEq, eq_self, and_true, true_and, and_false, false_and, and_self, not_true_eq_false, not_false_eq_true, decide_true, decide_false, ↓reduceIte, Int.reduceEq, Int.reduceNe, Int.reduceLT, Int.reduceLE, Int.reduceAdd, Int.reduceSub, Int.reduceMul, Int.reduceNeg, Nat.reduceAdd, Nat.reduceEqDiff, Nat.reduceBEq, ↓z_x_eq, z_g_t, z_bI_s, z_bL_s, z_bR_s, z_bV_s, Int.cast_ofNat_Int, beq_self_eq_true, Bool.and_true, Bool.true_and, Bool.and_self, Bool.or_true, Bool.true_or, Bool.false_and, Bool.and_false, Bool.false_or, Bool.or_false, Bool.not_false, Bool.not_true, if_true, if_false, ite_true, ite_false, z_up_eq, z_up_app, z_ro_eq, q1, cc]
  | m + 1, p, c, W, B, s, h0, h, hc, hi => by
    have q1 := (dw_h hQ.1).2.1
    have m1 := hQ.1.1.2.1
    have m0 := hQ.1.1.1
    have cc : (p < G 81 1) = True := eq_true (by omega)
    have mp := mo_p hQ.1.1 p h0 (by omega)
    have o1 := (dw_o hQ.1 p h0 (by omega)).1
    have o2 := (dw_o hQ.1 p h0 (by omega)).2
    have u := (dw_m hQ.1).1
    have e : ∀ P, s_ly P 0 (m + 1) p c W = cond (P p && decide ((c : Int) < 5)) (s_ly P 0 m (p + 1) (c + 1) (z_ro W (0 + c) p)) (s_ly P 0 m (p + 1) c W) := fun P => rfl
    by_cases c5 : c = 5
    · have e5 : s_ly (s_sd (G 81) bl) 0 (m + 1) p c W = (5, W) := by rw [c5]; exact s_ly_5 _ _ _ _ _
      rw [e5]
      have c5' : ((c : Int) < 5) = False := eq_false (by omega)
      refine ⟨B, s, ?_, by show t_inv _ _ _ _ W (5 : Int).toNat; rw [show (5 : Int).toNat = c by omega]; exact hi⟩
      show _ = some (vi (iI 5), z_Y T (z_up (z_up G 71 W) 77 B) s)
      rw [e_Ga_takeSide_10]
      simp -implicitDefEqProofs (disch := first | assumption | omega | rfl | (simp only [z_up_eq, z_up_app, ↓reduceIte, Nat.reduceEqDiff]; omega)) only [z_lit0, z_lit1, z_lit2, z_litl, iI_add, iI_sub, iI_mul, iI_neg, iI_and, iI_or, iI_xor, iI_shl, iI_shr, iI_ushr, iI_div, iI_b, iI_c, iI_i2l, lI_l2i, lI_add, lI_sub, lI_mul, lI_neg, lI_div, lI_or, lI_and, lI_shl, lI_shr, nI_iI, lg_lt0, lg_gt0, lg_eq0, i_ne0', l_ne0', iI_lt, iI_le, iI_eq, lI_lt, lI_le, lI_eq, zb_0, zb_fit, zb_fit0, zb_fit1, i_one_zero, i_w_in, z_tb0, z_tb1, z_tb2, z_tb3, z_tb4, z_tb5, z_tb6, z_tb7, z_tb8, z_tbl, z_tu0, z_tu1, z_tu2, z_i_62, z_i_63, z_i_86, z_i_88, z_l_Y, z_ui_62, z_ui_63, z_ui_86, z_ui_88, z_ul_Y, z_sz_Y, z_sw_Y, iI_nat, z_ix_t, z_at, Int.add_zero, Int.sub_zero, Int.zero_add, Int.mul_zero, ne_eq, Bool.false_eq_true, Bool.true_eq_false, reduceCtorEq, eq_self, and_true, true_and, and_false, false_and, and_self, not_true_eq_false, not_false_eq_true, decide_true, decide_false, ↓reduceIte, Int.reduceEq, Int.reduceNe, Int.reduceLT, Int.reduceLE, Int.reduceAdd, Int.reduceSub, Int.reduceMul, Int.reduceNeg, Nat.reduceAdd, Nat.reduceEqDiff, Nat.reduceBEq, ↓z_x_eq, z_g_t, z_bI_s, z_bL_s, z_bR_s, z_bV_s, Int.cast_ofNat_Int, beq_self_eq_true, Bool.and_true, Bool.true_and, Bool.and_self, Bool.or_true, Bool.true_or, Bool.false_and, Bool.and_false, Bool.false_or, Bool.or_false, Bool.not_false, Bool.not_true, if_true, if_false, ite_true, ite_false, z_up_eq, z_up_app, z_ro_eq, q1, cc, c5']
      rw [c5]; rfl
    · have c5' : ((c : Int) < 5) = True := eq_true (by omega)
      rw [e, decide_eq_true (show (c : Int) < 5 by omega), Bool.and_true]
      by_cases c1 : G 81 (32 + 5 * p + 3) = -1
      · have hP : s_sd (G 81) bl p = false := decide_eq_false (fun q => q.1 c1)
        rw [hP]
        obtain ⟨B', s', ih, k⟩ := p_ts_10_77 d T G (bl := bl) (be := be) hQ hbe hbl m (p + 1) c W B s (by omega) (by omega) hc hi
        refine ⟨B', s', ?_, k⟩
        refine Eq.trans ?_ ih
        rw [e_Ga_takeSide_10]
        simp -implicitDefEqProofs (disch := first | assumption | omega | rfl | (simp only [z_up_eq, z_up_app, ↓reduceIte, Nat.reduceEqDiff]; omega)) only [z_lit0, z_lit1, z_lit2, z_litl, iI_add, iI_sub, iI_mul, iI_neg, iI_and, iI_or, iI_xor, iI_shl, iI_shr, iI_ushr, iI_div, iI_b, iI_c, iI_i2l, lI_l2i, lI_add, lI_sub, lI_mul, lI_neg, lI_div, lI_or, lI_and, lI_shl, lI_shr, nI_iI, lg_lt0, lg_gt0, lg_eq0, i_ne0', l_ne0', iI_lt, iI_le, iI_eq, lI_lt, lI_le, lI_eq, zb_0, zb_fit, zb_fit0, zb_fit1, i_one_zero, i_w_in, z_tb0, z_tb1, z_tb2, z_tb3, z_tb4, z_tb5, z_tb6, z_tb7, z_tb8, z_tbl, z_tu0, z_tu1, z_tu2, z_i_62, z_i_63, z_i_86, z_i_88, z_l_Y, z_ui_62, z_ui_63, z_ui_86, z_ui_88, z_ul_Y, z_sz_Y, z_sw_Y, iI_nat, z_ix_t, z_at, Int.add_zero, Int.sub_zero, Int.zero_add, Int.mul_zero, ne_eq, Bool.false_eq_true, Bool.true_eq_false, reduceCtorEq, eq_self, and_true, true_and, and_false, false_and, and_self, not_true_eq_false, not_false_eq_true, decide_true, decide_false, ↓reduceIte, Int.reduceEq, Int.reduceNe, Int.reduceLT, Int.reduceLE, Int.reduceAdd, Int.reduceSub, Int.reduceMul, Int.reduceNeg, Nat.reduceAdd, Nat.reduceEqDiff, Nat.reduceBEq, ↓z_x_eq, z_g_t, z_bI_s, z_bL_s, z_bR_s, z_bV_s, Int.cast_ofNat_Int, beq_self_eq_true, Bool.and_true, Bool.true_and, Bool.and_self, Bool.or_true, Bool.true_or, Bool.false_and, Bool.and_false, Bool.false_or, Bool.or_false, Bool.not_false, Bool.not_true, if_true, if_false, ite_true, ite_false, z_up_eq, z_up_app, z_ro_eq, q1, cc, c5', o1, c1]
      · have bk := (dw_s hQ.1 (G 81 (32 + 5 * p + 3)) (by omega) (by omega)).1
        have msx := mo_s hQ.1.1 (G 81 (32 + 5 * p + 3)) (by omega) (by omega)
        by_cases c3 : G 81 (12 + 2 * G 81 (32 + 5 * p + 3)) = bl
        · have c3' : (G 81 (12 + 2 * G 81 (32 + 5 * p + 3)) = bl) = True := eq_true c3
          by_cases c2 : G 81 (32 + 5 * p + 4) = 1
          · have hP : s_sd (G 81) bl p = false := decide_eq_false (fun q => q.2.1 c2)
            rw [hP]
            obtain ⟨B', s', ih, k⟩ := p_ts_10_77 d T G (bl := bl) (be := be) hQ hbe hbl m (p + 1) c W B s (by omega) (by omega) hc hi
            refine ⟨B', s', ?_, k⟩
            refine Eq.trans ?_ ih
            rw [e_Ga_takeSide_10]
            simp -implicitDefEqProofs (disch := first | assumption | omega | rfl | (simp only [z_up_eq, z_up_app, ↓reduceIte, Nat.reduceEqDiff]; omega)) only [z_lit0, z_lit1, z_lit2, z_litl, iI_add, iI_sub, iI_mul, iI_neg, iI_and, iI_or, iI_xor, iI_shl, iI_shr, iI_ushr, iI_div, iI_b, iI_c, iI_i2l, lI_l2i, lI_add, lI_sub, lI_mul, lI_neg, lI_div, lI_or, lI_and, lI_shl, lI_shr, nI_iI, lg_lt0, lg_gt0, lg_eq0, i_ne0', l_ne0', iI_lt, iI_le, iI_eq, lI_lt, lI_le, lI_eq, zb_0, zb_fit, zb_fit0, zb_fit1, i_one_zero, i_w_in, z_tb0, z_tb1, z_tb2, z_tb3, z_tb4, z_tb5, z_tb6, z_tb7, z_tb8, z_tbl, z_tu0, z_tu1, z_tu2, z_i_62, z_i_63, z_i_86, z_i_88, z_l_Y, z_ui_62, z_ui_63, z_ui_86, z_ui_88, z_ul_Y, z_sz_Y, z_sw_Y, iI_nat, z_ix_t, z_at, Int.add_zero, Int.sub_zero, Int.zero_add, Int.mul_zero, ne_eq, Bool.false_eq_true, Bool.true_eq_false, reduceCtorEq, eq_self, and_true, true_and, and_false, false_and, and_self, not_true_eq_false, not_false_eq_true, decide_true, decide_false, ↓reduceIte, Int.reduceEq, Int.reduceNe, Int.reduceLT, Int.reduceLE, Int.reduceAdd, Int.reduceSub, Int.reduceMul, Int.reduceNeg, Nat.reduceAdd, Nat.reduceEqDiff, Nat.reduceBEq, ↓z_x_eq, z_g_t, z_bI_s, z_bL_s, z_bR_s, z_bV_s, Int.cast_ofNat_Int, beq_self_eq_true, Bool.and_true, Bool.true_and, Bool.and_self, Bool.or_true, Bool.true_or, Bool.false_and, Bool.and_false, Bool.false_or, Bool.or_false, Bool.not_false, Bool.not_true, if_true, if_false, ite_true, ite_false, z_up_eq, z_up_app, z_ro_eq, q1, cc, c5', o1, c1, bk, c3', o2, c2]
          · have hP : s_sd (G 81) bl p = true := decide_eq_true ⟨c1, c2, c3⟩
            rw [hP]
            have hQ' : c_q T (z_up (z_up G 71 W) 77 B) := cq_eq hQ (fun r a => by rw [z_up_ne _ _ (by omega), z_up_ne _ _ (by omega)])
            have e81 : z_up (z_up G 71 W) 77 B 81 = G 81 := by rw [z_up_ne _ _ (by omega), z_up_ne _ _ (by omega)]
            have e83 : z_up (z_up G 71 W) 77 B 83 = G 83 := by rw [z_up_ne _ _ (by omega), z_up_ne _ _ (by omega)]
            obtain ⟨v1, τ1, b1, r1, s1, r2⟩ := p_coth d T (z_up (z_up G 71 W) 77 B) s (p := p) (b := be) (us := G 81 8) hQ' (by rw [e81]; omega) hbe
            rw [r1, r2, e81, e83, show m_oth (G 81 (32 + 5 * p + 4)) = 1 from if_neg c2] at b1
            obtain ⟨v2, τ2, b2, r3, s2, r4⟩ := p_cbreathNow d T (z_up (z_up G 71 W) 77 B) s1 (p := p) (b := be) hQ' (by rw [e81]; omega) hbe
            rw [r3, r4, e81, e83] at b2
            obtain ⟨B1, e1, k1⟩ := p_ts_114_77 (d + 5) T (z_up G 71 (z_ro W c p)) s2 (bl := bl) (be := be) (ch := g_ch (G 81) (G 83) be p) (p := p) (c := c) (B0 := B) (by omega) (2 ^ c) 0 B (by omega) (by simp) (fun _ _ _ => rfl) (fun a _ _ => by omega)
            obtain ⟨B', s', ih, k⟩ := p_ts_10_77 d T G (bl := bl) (be := be) hQ hbe hbl m (p + 1) (c + 1) (z_ro W (0 + c) p) B1 s2 (by omega) (by omega) (by omega) (t_inv_up (by omega) hi k1)
            rw [show ((c + 1 : Nat) : Int) = (c : Int) + 1 by omega] at ih k
            refine ⟨B', s', ?_, k⟩
            refine Eq.trans ?_ ih
            rw [show (0 : Int) + c = c by omega, ← e1, e_Ga_takeSide_10]
            unfold g_ch
            simp -implicitDefEqProofs (disch := first | assumption | omega | rfl | (simp only [z_up_eq, z_up_app, ↓reduceIte, Nat.reduceEqDiff]; omega)) only [z_lit0, z_lit1, z_lit2, z_litl, iI_add, iI_sub, iI_mul, iI_neg, iI_and, iI_or, iI_xor, iI_shl, iI_shr, iI_ushr, iI_div, iI_b, iI_c, iI_i2l, lI_l2i, lI_add, lI_sub, lI_mul, lI_neg, lI_div, lI_or, lI_and, lI_shl, lI_shr, nI_iI, lg_lt0, lg_gt0, lg_eq0, i_ne0', l_ne0', iI_lt, iI_le, iI_eq, lI_lt, lI_le, lI_eq, zb_0, zb_fit, zb_fit0, zb_fit1, i_one_zero, i_w_in, z_tb0, z_tb1, z_tb2, z_tb3, z_tb4, z_tb5, z_tb6, z_tb7, z_tb8, z_tbl, z_tu0, z_tu1, z_tu2, z_i_62, z_i_63, z_i_86, z_i_88, z_l_Y, z_ui_62, z_ui_63, z_ui_86, z_ui_88, z_ul_Y, z_sz_Y, z_sw_Y, iI_nat, z_ix_t, z_at, Int.add_zero, Int.sub_zero, Int.zero_add, Int.mul_zero, ne_eq, Bool.false_eq_true, Bool.true_eq_false, reduceCtorEq, eq_self, and_true, true_and, and_false, false_and, and_self, not_true_eq_false, not_false_eq_true, decide_true, decide_false, ↓reduceIte, Int.reduceEq, Int.reduceNe, Int.reduceLT, Int.reduceLE, Int.reduceAdd, Int.reduceSub, Int.reduceMul, Int.reduceNeg, Nat.reduceAdd, Nat.reduceEqDiff, Nat.reduceBEq, ↓z_x_eq, z_g_t, z_bI_s, z_bL_s, z_bR_s, z_bV_s, Int.cast_ofNat_Int, beq_self_eq_true, Bool.and_true, Bool.true_and, Bool.and_self, Bool.or_true, Bool.true_or, Bool.false_and, Bool.and_false, Bool.false_or, Bool.or_false, Bool.not_false, Bool.not_true, if_true, if_false, ite_true, ite_false, z_up_eq, z_up_app, z_ro_eq, q1, cc, c5', o1, c1, bk, c3', o2, c2, u, b1, b2, z_up_up, z_up_cm]
        · have hP : s_sd (G 81) bl p = false := decide_eq_false (fun q => c3 q.2.2)
          rw [hP]
          obtain ⟨B', s', ih, k⟩ := p_ts_10_77 d T G (bl := bl) (be := be) hQ hbe hbl m (p + 1) c W B s (by omega) (by omega) hc hi
          refine ⟨B', s', ?_, k⟩
          refine Eq.trans ?_ ih
          rw [e_Ga_takeSide_10]
          simp -implicitDefEqProofs (disch := first | assumption | omega | rfl | (simp only [z_up_eq, z_up_app, ↓reduceIte, Nat.reduceEqDiff]; omega)) only [z_lit0, z_lit1, z_lit2, z_litl, iI_add, iI_sub, iI_mul, iI_neg, iI_and, iI_or, iI_xor, iI_shl, iI_shr, iI_ushr, iI_div, iI_b, iI_c, iI_i2l, lI_l2i, lI_add, lI_sub, lI_mul, lI_neg, lI_div, lI_or, lI_and, lI_shl, lI_shr, nI_iI, lg_lt0, lg_gt0, lg_eq0, i_ne0', l_ne0', iI_lt, iI_le, iI_eq, lI_lt, lI_le, lI_eq, zb_0, zb_fit, zb_fit0, zb_fit1, i_one_zero, i_w_in, z_tb0, z_tb1, z_tb2, z_tb3, z_tb4, z_tb5, z_tb6, z_tb7, z_tb8, z_tbl, z_tu0, z_tu1, z_tu2, z_i_62, z_i_63, z_i_86, z_i_88, z_l_Y, z_ui_62, z_ui_63, z_ui_86, z_ui_88, z_ul_Y, z_sz_Y, z_sw_Y, iI_nat, z_ix_t, z_at, Int.add_zero, Int.sub_zero, Int.zero_add, Int.mul_zero, ne_eq, Bool.false_eq_true, Bool.true_eq_false, reduceCtorEq, eq_self, and_true, true_and, and_false, false_and, and_self, not_true_eq_false, not_false_eq_true, decide_true, decide_false, ↓reduceIte, Int.reduceEq, Int.reduceNe, Int.reduceLT, Int.reduceLE, Int.reduceAdd, Int.reduceSub, Int.reduceMul, Int.reduceNeg, Nat.reduceAdd, Nat.reduceEqDiff, Nat.reduceBEq, ↓z_x_eq, z_g_t, z_bI_s, z_bL_s, z_bR_s, z_bV_s, Int.cast_ofNat_Int, beq_self_eq_true, Bool.and_true, Bool.true_and, Bool.and_self, Bool.or_true, Bool.true_or, Bool.false_and, Bool.and_false, Bool.false_or, Bool.or_false, Bool.not_false, Bool.not_true, if_true, if_false, ite_true, ite_false, z_up_eq, z_up_app, z_ro_eq, q1, cc, c5', o1, c1, bk, c3]
theorem p_side_77 (d : Nat) (T : ZT) (G : ZG) (s : ZG × ZG) {bl be : Int} (hQ : c_q T G) (hbe : 0 ≤ be ∧ be ≤ 20000) (hbl : i_in bl) : ∃ W B s', z_call (d + 6) 286 [vr 70, vi (iI bl), vi (iI be), vr 77, vr 71] (z_Y T G s) = some (vi (iI (s_cn (G 81) bl)), z_Y T (z_up (z_up G 71 W) 77 B) s') ∧ (∀ k, 0 ≤ k → k < s_cn (G 81) bl → W k = s_li (G 81) bl k) ∧ ∀ a : Int, 0 ≤ a → a < 2 ^ (s_cn (G 81) bl).toNat → B a = g_su (G 81) (G 83) (s_li (G 81) bl) be (s_cn (G 81) bl).toNat a := by
  have m1 := hQ.1.1.2.1
  have hc := s_cn_in (G 81) bl
  obtain ⟨B', s', e, k⟩ := p_ts_10_77 d T G (bl := bl) (be := be) hQ hbe hbl (G 81 1).toNat 0 0 (G 71) (z_ro (G 77) 0 0) s (by omega) (by omega) (by omega) (fun a q0 q1 => by
    have : a = 0 := by have q1' : a < 1 := q1; omega
    rw [this, z_ro_eq]; rfl)
  rw [show ((0 : Nat) : Int) = 0 from rfl] at e k
  have c1 : (s_ly (s_sd (G 81) bl) 0 (G 81 1).toNat 0 0 (G 71)).1 = s_cn (G 81) bl := s_ly_c _ _ _ _ _ _ _ _
  have a1 := s_ly_ag (s_sd (G 81) bl) 0 0 (G 81 1).toNat 0 0 (G 71) (fun _ => 0) (fun k a b => by omega)
  rw [c1] at e k a1
  have aW : ∀ k, 0 ≤ k → k < s_cn (G 81) bl → (s_ly (s_sd (G 81) bl) 0 (G 81 1).toNat 0 0 (G 71)).2 k = s_li (G 81) bl k := fun k a b => by
    have := a1 k a b
    rw [Int.zero_add] at this
    rw [this]; unfold s_li; rw [Int.zero_add]
  refine ⟨_, B', s', ?_, aW, fun a q0 q1 => ?_⟩
  · have eu : z_up (z_up G 71 (G 71)) 77 (z_ro (G 77) 0 0) = z_up G 77 (z_ro (G 77) 0 0) := by rw [z_up_id]
    rw [eu] at e
    rw [e_Ga_takeSide]
    simp -implicitDefEqProofs (disch := first | assumption | omega | rfl | (simp only [z_up_eq, z_up_app, ↓reduceIte, Nat.reduceEqDiff]; omega)) only [z_lit0, z_lit1, z_lit2, z_litl, iI_add, iI_sub, iI_mul, iI_neg, iI_and, iI_or, iI_xor, iI_shl, iI_shr, iI_ushr, iI_div, iI_b, iI_c, iI_i2l, lI_l2i, lI_add, lI_sub, lI_mul, lI_neg, lI_div, lI_or, lI_and, lI_shl, lI_shr, nI_iI, lg_lt0, lg_gt0, lg_eq0, i_ne0', l_ne0', iI_lt, iI_le, iI_eq, lI_lt, lI_le, lI_eq, zb_0, zb_fit, zb_fit0, zb_fit1, i_one_zero, i_w_in, z_tb0, z_tb1, z_tb2, z_tb3, z_tb4, z_tb5, z_tb6, z_tb7, z_tb8, z_tbl, z_tu0, z_tu1, z_tu2, z_i_62, z_i_63, z_i_86, z_i_88, z_l_Y, z_ui_62, z_ui_63, z_ui_86, z_ui_88, z_ul_Y, z_sz_Y, z_sw_Y, iI_nat, z_ix_t, z_at, Int.add_zero, Int.sub_zero, Int.zero_add, Int.mul_zero, ne_eq, Bool.false_eq_true, Bool.true_eq_false, reduceCtorEq, eq_self, and_true, true_and, and_false, false_and, and_self, not_true_eq_false, not_false_eq_true, decide_true, decide_false, ↓reduceIte, Int.reduceEq, Int.reduceNe, Int.reduceLT, Int.reduceLE, Int.reduceAdd, Int.reduceSub, Int.reduceMul, Int.reduceNeg, Nat.reduceAdd, Nat.reduceEqDiff, Nat.reduceBEq, ↓z_x_eq, z_g_t, z_bI_s, z_bL_s, z_bR_s, z_bV_s, Int.cast_ofNat_Int, beq_self_eq_true, Bool.and_true, Bool.true_and, Bool.and_self, Bool.or_true, Bool.true_or, Bool.false_and, Bool.and_false, Bool.false_or, Bool.or_false, Bool.not_false, Bool.not_true, if_true, if_false, ite_true, ite_false, z_up_eq, z_up_app, z_ro_eq, e]
  · rw [k a q0 q1]
    unfold g_su
    refine z_sum_eq _ _ (fun j e1 e2 => ?_)
    rw [aW j e1 (by omega)]

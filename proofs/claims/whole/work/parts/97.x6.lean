/-! THE PURE PART, 97: the model's numbers -/
def j_tail (K V : Nat → Int) (lo hi : Int) (l : List (Int × Int × Int)) (j : Nat) : UN := if K j = 2 then (if lo ≤ V j ∧ V j ≤ hi then ((j_nums K V l (j + 1)).1, (j_nums K V l (j + 1)).2.1, V j :: (j_nums K V l (j + 1)).2.2) else (2, j, [])) else (1, j, [])
theorem j_nums_c (K V : Nat → Int) (f : Int × Int × Int) (l : List (Int × Int × Int)) (j : Nat) : j_nums K V (f :: l) j = if K j = f.1 then j_tail K V f.2.1 f.2.2 l (j + 1) else (1, j, []) := rfl
/-- the model in the midst of numbers: its row as it was but for the token, texts A, at the j-th token -/
def m_st (B : Int → Int) (L : Int) (R0 : Int → Int) (Gb : ZG) (A : Int → Int) (j : Nat) (G : ZG) (w : Int) : Prop := y_mt (G 80) w B L (y_P B L j) ∧ (∀ k, ¬ (7 ≤ k ∧ k ≤ 10) → G 80 k = R0 k) ∧ G 83 = A ∧ ∀ r, r ≠ 80 → r ≠ 83 → G r = Gb r
def n_rs (T : ZT) (B : Int → Int) (L : Int) (R0 : Int → Int) (Gb : ZG) (A : Int → Int) (e x : Int) (y : UN) (v : ZR) : Prop := (y.1 = 0 → ∃ A' G' s', v = some (vi (iI 0), z_Y T G' s') ∧ m_st B L R0 Gb A' y.2.1 G' (s'.2 80 11) ∧ (∀ i, ¬ (x ≤ i ∧ i < x + y.2.2.length) → A' i = A i) ∧ ∀ i : Nat, i < y.2.2.length → A' (x + i) = y.2.2.getD i 0) ∧ (y.1 ≠ 0 → (0 ≤ y.1 ∧ y.1 ≤ 6) ∧ ∃ A' G' s', v = some (vi (iI y.1), z_Y T G' s') ∧ m_st B L R0 Gb A' y.2.1 G' (s'.2 80 11) ∧ ∀ i, ¬ (x ≤ i ∧ i < e) → A' i = A i)
section
variable {T : ZT} {G Gb : ZG} {s : ZG × ZG} {B A R0 : Int → Int} {L : Int} {N : Nat}
theorem m_rl (hB : y_tm Gb B L) {j : Nat} {w : Int} (h : m_st B L R0 Gb A j G w) : y_rl (n_K B L j) (n_V B L j) (G 80 9) (G 80 10) w := by
  have p := y_P_in (B := B) hB.1.1 j
  exact y_rel h.1 ⟨p.1, p.2.1⟩ hB.2.2.2
theorem p_mnxt {E : Nat} (hE : 2 ≤ E) (hB : y_tm Gb B L) (h4 : R0 4 = L) {j : Nat} (h : m_st B L R0 Gb A j G (s.2 80 11)) : ∃ G' s', z_call E 80 [vr 80] (z_Y T G s) = some (vi (iI 0), z_Y T G' s') ∧ m_st B L R0 Gb A (j + 1) G' (s'.2 80 11) := by
  obtain ⟨d, rfl⟩ : ∃ d, E = d + 2 := ⟨E - 2, by omega⟩
  obtain ⟨m, r1, r2, r3⟩ := h
  have hB' : y_tm G B L := by
    unfold y_tm at hB ⊢
    rw [r1 4 (by omega), h4, r3 84 (by omega) (by omega)]; exact ⟨hB.1, rfl, hB.2.2⟩
  obtain ⟨R', s', e1, e2, e3⟩ := p_next d T G s hB' m
  refine ⟨z_up G 80 R', s', e1, ?_, fun k a => ?_, ?_, fun r a b => ?_⟩
  · rw [z_up_eq]; exact e2
  · rw [z_up_eq, e3 k a]; exact r1 k a
  · rw [z_up_ne _ _ (by omega)]; exact r2
  · rw [z_up_ne _ _ a]; exact r3 r a b
theorem m_st_A {j : Nat} {w : Int} (h : m_st B L R0 Gb A j G w) (A' : Int → Int) : m_st B L R0 Gb A' j (z_up G 83 A') w := by
  obtain ⟨m, r1, r2, r3⟩ := h
  refine ⟨?_, fun k a => ?_, z_up_eq _ _ _, fun r a b => ?_⟩
  · rw [z_up_ne _ _ (by omega)]; exact m
  · rw [z_up_ne _ _ (by omega)]; exact r1 k a
  · rw [z_up_ne _ _ b]; exact r3 r a b
theorem p_figure {E : Nat} (hE : 3 ≤ E) (hB : y_tm Gb B L) (h4 : R0 4 = L) {j : Nat} (h : m_st B L R0 Gb A j G (s.2 80 11)) {e x lo hi : Int} (hx : 0 ≤ x ∧ x < 2820) (hl : 0 ≤ lo ∧ lo ≤ hi ∧ hi ≤ 9999) : n_rs T B L R0 Gb A e x (j_tail (n_K B L) (n_V B L) lo hi [] j) (z_call E 105 [vr 80, vi (iI x), vi (iI lo), vi (iI hi)] (z_Y T G s)) := by
  obtain ⟨d, rfl⟩ : ∃ d, E = d + 2 := ⟨E - 2, by omega⟩
  have rl := m_rl hB h
  obtain ⟨b0, t2, t00, t1, -⟩ := n_tok rl
  have nu := rl.2.2.1
  unfold j_tail
  by_cases c : n_K B L j = 2
  · have c' : (n_K B L j = 2) = True := eq_true c
    have nu' := nu c
    rw [if_pos c]
    have w := p_isIn d (a := G 80 10) (b := lo) (c := hi) (z_Y T G s) ⟨⟨by omega, by omega⟩, ⟨by omega, by omega⟩, ⟨by omega, by omega⟩⟩
    by_cases c2 : lo ≤ n_V B L j ∧ n_V B L j ≤ hi
    · rw [if_pos c2]
      have ev : G 80 10 = n_V B L j := by omega
      rw [decide_eq_true (show lo ≤ G 80 10 ∧ G 80 10 ≤ hi by omega), ev] at w
      have h2 := m_st_A h (z_ro (G 83) x (n_V B L j))
      obtain ⟨G', s', e1, n1⟩ := p_mnxt (T := T) (s := s) (E := d + 1) (by omega) hB h4 h2
      refine ⟨fun _ => ⟨z_ro (G 83) x (n_V B L j), G', s', ?_, n1, fun i a => ?_, fun i a => ?_⟩, fun z => absurd rfl z⟩
      · rw [e_M_figure]
        simp -implicitDefEqProofs (disch := first | assumption | omega | rfl | (simp only [z_up_eq, z_up_app, ↓reduceIte, Nat.reduceEqDiff]; omega)) only [z_lit0, z_lit1, z_lit2, z_litl, iI_add, iI_sub, iI_mul, iI_neg, iI_and, iI_or, iI_xor, iI_shl, iI_shr, iI_ushr, iI_div, iI_b, iI_c, iI_i2l, lI_l2i, lI_add, lI_sub, lI_mul, lI_neg, lI_div, lI_or, lI_and, lI_shl, lI_shr, nI_iI, lg_lt0, lg_gt0, lg_eq0, i_ne0', l_ne0', iI_lt, iI_le, iI_eq, lI_lt, lI_le, lI_eq, zb_0, zb_fit, zb_fit0, zb_fit1, i_one_zero, i_w_in, z_tb0, z_tb1, z_tb2, z_tb3, z_tb4, z_tb5, z_tb6, z_tb7, z_tb8, z_tbl, z_tu0, z_tu1, z_tu2, z_i_62, z_i_63, z_i_86, z_i_88, z_l_Y, z_ui_62, z_ui_63, z_ui_86, z_ui_88, z_ul_Y, z_sz_Y, z_sw_Y, iI_nat, z_ix_t, z_at, Int.add_zero, Int.sub_zero, Int.zero_add, Int.mul_zero, ne_eq, Bool.false_eq_true, Bool.true_eq_false, reduceCtorEq, eq_self, and_true, true_and, and_false, false_and, and_self, not_true_eq_false, not_false_eq_true, decide_true, decide_false, ↓reduceIte, Int.reduceEq, Int.reduceNe, Int.reduceLT, Int.reduceLE, Int.reduceAdd, Int.reduceSub, Int.reduceMul, Int.reduceNeg, Nat.reduceAdd, Nat.reduceEqDiff, Nat.reduceBEq, ↓z_x_eq, z_g_t, z_bI_s, z_bL_s, z_bR_s, z_bV_s, Int.cast_ofNat_Int, beq_self_eq_true, Bool.and_true, Bool.true_and, Bool.and_self, Bool.or_true, Bool.true_or, Bool.false_and, Bool.and_false, Bool.false_or, Bool.or_false, Bool.not_false, Bool.not_true, if_true, if_false, ite_true, ite_false, z_up_eq, z_up_app, z_ro_eq, t1, c', w, zb_t, ev, e1]
      · have a' : ¬ (x ≤ i ∧ i < x + ((1 : Nat) : Int)) := a
        rw [z_ro_ne _ _ (by omega), h.2.2.1]
      · have a' : i < 1 := a
        rw [show i = 0 by omega, show x + ((0 : Nat) : Int) = x by omega, z_ro_eq]; rfl
    · rw [if_neg c2]
      rw [decide_eq_false (show ¬ (lo ≤ G 80 10 ∧ G 80 10 ≤ hi) by omega)] at w
      refine ⟨fun z => (by cases z), fun _ => ⟨⟨by show (0 : Int) ≤ 2; decide, by show (2 : Int) ≤ 6; decide⟩, A, G, s, ?_, h, fun i a => rfl⟩⟩
      rw [e_M_figure]
      simp -implicitDefEqProofs (disch := first | assumption | omega | rfl | (simp only [z_up_eq, z_up_app, ↓reduceIte, Nat.reduceEqDiff]; omega)) only [z_lit0, z_lit1, z_lit2, z_litl, iI_add, iI_sub, iI_mul, iI_neg, iI_and, iI_or, iI_xor, iI_shl, iI_shr, iI_ushr, iI_div, iI_b, iI_c, iI_i2l, lI_l2i, lI_add, lI_sub, lI_mul, lI_neg, lI_div, lI_or, lI_and, lI_shl, lI_shr, nI_iI, lg_lt0, lg_gt0, lg_eq0, i_ne0', l_ne0', iI_lt, iI_le, iI_eq, lI_lt, lI_le, lI_eq, zb_0, zb_fit, zb_fit0, zb_fit1, i_one_zero, i_w_in, z_tb0, z_tb1, z_tb2, z_tb3, z_tb4, z_tb5, z_tb6, z_tb7, z_tb8, z_tbl, z_tu0, z_tu1, z_tu2, z_i_62, z_i_63, z_i_86, z_i_88, z_l_Y, z_ui_62, z_ui_63, z_ui_86, z_ui_88, z_ul_Y, z_sz_Y, z_sw_Y, iI_nat, z_ix_t, z_at, Int.add_zero, Int.sub_zero, Int.zero_add, Int.mul_zero, ne_eq, Bool.false_eq_true, Bool.true_eq_false, reduceCtorEq, eq_self, and_true, true_and, and_false, false_and, and_self, not_true_eq_false, not_false_eq_true, decide_true, decide_false, ↓reduceIte, Int.reduceEq, Int.reduceNe, Int.reduceLT, Int.reduceLE, Int.reduceAdd, Int.reduceSub, Int.reduceMul, Int.reduceNeg, Nat.reduceAdd, Nat.reduceEqDiff, Nat.reduceBEq, ↓z_x_eq, z_g_t, z_bI_s, z_bL_s, z_bR_s, z_bV_s, Int.cast_ofNat_Int, beq_self_eq_true, Bool.and_true, Bool.true_and, Bool.and_self, Bool.or_true, Bool.true_or, Bool.false_and, Bool.and_false, Bool.false_or, Bool.or_false, Bool.not_false, Bool.not_true, if_true, if_false, ite_true, ite_false, z_up_eq, z_up_app, z_ro_eq, t1, c', w, zb_f]
  · have c' : (n_K B L j = 2) = False := eq_false c
    rw [if_neg c]
    refine ⟨fun z => (by cases z), fun _ => ⟨⟨by show (0 : Int) ≤ 1; decide, by show (1 : Int) ≤ 6; decide⟩, A, G, s, ?_, h, fun i a => rfl⟩⟩
    rw [e_M_figure]
    simp -implicitDefEqProofs (disch := first | assumption | omega | rfl | (simp only [z_up_eq, z_up_app, ↓reduceIte, Nat.reduceEqDiff]; omega)) only [z_lit0, z_lit1, z_lit2, z_litl, iI_add, iI_sub, iI_mul, iI_neg, iI_and, iI_or, iI_xor, iI_shl, iI_shr, iI_ushr, iI_div, iI_b, iI_c, iI_i2l, lI_l2i, lI_add, lI_sub, lI_mul, lI_neg, lI_div, lI_or, lI_and, lI_shl, lI_shr, nI_iI, lg_lt0, lg_gt0, lg_eq0, i_ne0', l_ne0', iI_lt, iI_le, iI_eq, lI_lt, lI_le, lI_eq, zb_0, zb_fit, zb_fit0, zb_fit1, i_one_zero, i_w_in, z_tb0, z_tb1, z_tb2, z_tb3, z_tb4, z_tb5, z_tb6, z_tb7, z_tb8, z_tbl, z_tu0, z_tu1, z_tu2, z_i_62, z_i_63, z_i_86, z_i_88, z_l_Y, z_ui_62, z_ui_63, z_ui_86, z_ui_88, z_ul_Y, z_sz_Y, z_sw_Y, iI_nat, z_ix_t, z_at, Int.add_zero, Int.sub_zero, Int.zero_add, Int.mul_zero, ne_eq, Bool.false_eq_true, Bool.true_eq_false, reduceCtorEq, eq_self, and_true, true_and, and_false, false_and, and_self, not_true_eq_false, not_false_eq_true, decide_true, decide_false, ↓reduceIte, Int.reduceEq, Int.reduceNe, Int.reduceLT, Int.reduceLE, Int.reduceAdd, Int.reduceSub, Int.reduceMul, Int.reduceNeg, Nat.reduceAdd, Nat.reduceEqDiff, Nat.reduceBEq, ↓z_x_eq, z_g_t, z_bI_s, z_bL_s, z_bR_s, z_bV_s, Int.cast_ofNat_Int, beq_self_eq_true, Bool.and_true, Bool.true_and, Bool.and_self, Bool.or_true, Bool.true_or, Bool.false_and, Bool.and_false, Bool.false_or, Bool.or_false, Bool.not_false, Bool.not_true, if_true, if_false, ite_true, ite_false, z_up_eq, z_up_app, z_ro_eq, t1, c']
theorem p_worded {E : Nat} (hE : 4 ≤ E) (hB : y_tm Gb B L) (h4 : R0 4 = L) {j : Nat} (h : m_st B L R0 Gb A j G (s.2 80 11)) {e x lo hi k : Int} (hx : 0 ≤ x ∧ x < 2820) (hl : 0 ≤ lo ∧ lo ≤ hi ∧ hi ≤ 9999) (hk : 0 ≤ k ∧ k < 27) : n_rs T B L R0 Gb A e x (j_nums (n_K B L) (n_V B L) [(18 + k, lo, hi)] j) (z_call E 106 [vr 80, vl (lI (y_ww k)), vi (iI x), vi (iI lo), vi (iI hi)] (z_Y T G s)) := by
  obtain ⟨d, rfl⟩ : ∃ d, E = d + 1 := ⟨E - 1, by omega⟩
  have rl := m_rl hB h
  have iw := p_isWord (E := d) (by omega) T G s rl hk
  rw [j_nums_c]
  show n_rs T B L R0 Gb A e x (if n_K B L j = 18 + k then j_tail (n_K B L) (n_V B L) lo hi [] (j + 1) else (1, j, [])) _
  by_cases c : n_K B L j = 18 + k
  · rw [if_pos c]
    rw [decide_eq_true c] at iw
    obtain ⟨G1, s1, e1, h1⟩ := p_mnxt (T := T) (s := s) (E := d) (by omega) hB h4 h
    have f := p_figure (T := T) (s := s1) (E := d) (e := e) (by omega) hB h4 h1 hx hl
    generalize j_tail (n_K B L) (n_V B L) lo hi [] (j + 1) = y at *
    refine ⟨fun z => ?_, fun z => ?_⟩
    · obtain ⟨A', G', s', e2, r⟩ := f.1 z
      refine ⟨A', G', s', ?_, r⟩
      rw [e_M_worded]
      simp -implicitDefEqProofs (disch := first | assumption | omega | rfl | (simp only [z_up_eq, z_up_app, ↓reduceIte, Nat.reduceEqDiff]; omega)) only [z_lit0, z_lit1, z_lit2, z_litl, iI_add, iI_sub, iI_mul, iI_neg, iI_and, iI_or, iI_xor, iI_shl, iI_shr, iI_ushr, iI_div, iI_b, iI_c, iI_i2l, lI_l2i, lI_add, lI_sub, lI_mul, lI_neg, lI_div, lI_or, lI_and, lI_shl, lI_shr, nI_iI, lg_lt0, lg_gt0, lg_eq0, i_ne0', l_ne0', iI_lt, iI_le, iI_eq, lI_lt, lI_le, lI_eq, zb_0, zb_fit, zb_fit0, zb_fit1, i_one_zero, i_w_in, z_tb0, z_tb1, z_tb2, z_tb3, z_tb4, z_tb5, z_tb6, z_tb7, z_tb8, z_tbl, z_tu0, z_tu1, z_tu2, z_i_62, z_i_63, z_i_86, z_i_88, z_l_Y, z_ui_62, z_ui_63, z_ui_86, z_ui_88, z_ul_Y, z_sz_Y, z_sw_Y, iI_nat, z_ix_t, z_at, Int.add_zero, Int.sub_zero, Int.zero_add, Int.mul_zero, ne_eq, Bool.false_eq_true, Bool.true_eq_false, reduceCtorEq, eq_self, and_true, true_and, and_false, false_and, and_self, not_true_eq_false, not_false_eq_true, decide_true, decide_false, ↓reduceIte, Int.reduceEq, Int.reduceNe, Int.reduceLT, Int.reduceLE, Int.reduceAdd, Int.reduceSub, Int.reduceMul, Int.reduceNeg, Nat.reduceAdd, Nat.reduceEqDiff, Nat.reduceBEq, ↓z_x_eq, z_g_t, z_bI_s, z_bL_s, z_bR_s, z_bV_s, Int.cast_ofNat_Int, beq_self_eq_true, Bool.and_true, Bool.true_and, Bool.and_self, Bool.or_true, Bool.true_or, Bool.false_and, Bool.and_false, Bool.false_or, Bool.or_false, Bool.not_false, Bool.not_true, if_true, if_false, ite_true, ite_false, z_up_eq, z_up_app, z_ro_eq, iw, zb_t, e1, e2]
    · obtain ⟨bd, A', G', s', e2, r⟩ := f.2 z
      refine ⟨bd, A', G', s', ?_, r⟩
      rw [e_M_worded]
      simp -implicitDefEqProofs (disch := first | assumption | omega | rfl | (simp only [z_up_eq, z_up_app, ↓reduceIte, Nat.reduceEqDiff]; omega)) only [z_lit0, z_lit1, z_lit2, z_litl, iI_add, iI_sub, iI_mul, iI_neg, iI_and, iI_or, iI_xor, iI_shl, iI_shr, iI_ushr, iI_div, iI_b, iI_c, iI_i2l, lI_l2i, lI_add, lI_sub, lI_mul, lI_neg, lI_div, lI_or, lI_and, lI_shl, lI_shr, nI_iI, lg_lt0, lg_gt0, lg_eq0, i_ne0', l_ne0', iI_lt, iI_le, iI_eq, lI_lt, lI_le, lI_eq, zb_0, zb_fit, zb_fit0, zb_fit1, i_one_zero, i_w_in, z_tb0, z_tb1, z_tb2, z_tb3, z_tb4, z_tb5, z_tb6, z_tb7, z_tb8, z_tbl, z_tu0, z_tu1, z_tu2, z_i_62, z_i_63, z_i_86, z_i_88, z_l_Y, z_ui_62, z_ui_63, z_ui_86, z_ui_88, z_ul_Y, z_sz_Y, z_sw_Y, iI_nat, z_ix_t, z_at, Int.add_zero, Int.sub_zero, Int.zero_add, Int.mul_zero, ne_eq, Bool.false_eq_true, Bool.true_eq_false, reduceCtorEq, eq_self, and_true, true_and, and_false, false_and, and_self, not_true_eq_false, not_false_eq_true, decide_true, decide_false, ↓reduceIte, Int.reduceEq, Int.reduceNe, Int.reduceLT, Int.reduceLE, Int.reduceAdd, Int.reduceSub, Int.reduceMul, Int.reduceNeg, Nat.reduceAdd, Nat.reduceEqDiff, Nat.reduceBEq, ↓z_x_eq, z_g_t, z_bI_s, z_bL_s, z_bR_s, z_bV_s, Int.cast_ofNat_Int, beq_self_eq_true, Bool.and_true, Bool.true_and, Bool.and_self, Bool.or_true, Bool.true_or, Bool.false_and, Bool.and_false, Bool.false_or, Bool.or_false, Bool.not_false, Bool.not_true, if_true, if_false, ite_true, ite_false, z_up_eq, z_up_app, z_ro_eq, iw, zb_t, e1, e2]
  · rw [if_neg c]
    rw [decide_eq_false c] at iw
    refine ⟨fun z => (by cases z), fun _ => ⟨⟨by show (0 : Int) ≤ 1; decide, by show (1 : Int) ≤ 6; decide⟩, A, G, s, ?_, h, fun i a => rfl⟩⟩
    rw [e_M_worded]
    simp -implicitDefEqProofs (disch := first | assumption | omega | rfl | (simp only [z_up_eq, z_up_app, ↓reduceIte, Nat.reduceEqDiff]; omega)) only [z_lit0, z_lit1, z_lit2, z_litl, iI_add, iI_sub, iI_mul, iI_neg, iI_and, iI_or, iI_xor, iI_shl, iI_shr, iI_ushr, iI_div, iI_b, iI_c, iI_i2l, lI_l2i, lI_add, lI_sub, lI_mul, lI_neg, lI_div, lI_or, lI_and, lI_shl, lI_shr, nI_iI, lg_lt0, lg_gt0, lg_eq0, i_ne0', l_ne0', iI_lt, iI_le, iI_eq, lI_lt, lI_le, lI_eq, zb_0, zb_fit, zb_fit0, zb_fit1, i_one_zero, i_w_in, z_tb0, z_tb1, z_tb2, z_tb3, z_tb4, z_tb5, z_tb6, z_tb7, z_tb8, z_tbl, z_tu0, z_tu1, z_tu2, z_i_62, z_i_63, z_i_86, z_i_88, z_l_Y, z_ui_62, z_ui_63, z_ui_86, z_ui_88, z_ul_Y, z_sz_Y, z_sw_Y, iI_nat, z_ix_t, z_at, Int.add_zero, Int.sub_zero, Int.zero_add, Int.mul_zero, ne_eq, Bool.false_eq_true, Bool.true_eq_false, reduceCtorEq, eq_self, and_true, true_and, and_false, false_and, and_self, not_true_eq_false, not_false_eq_true, decide_true, decide_false, ↓reduceIte, Int.reduceEq, Int.reduceNe, Int.reduceLT, Int.reduceLE, Int.reduceAdd, Int.reduceSub, Int.reduceMul, Int.reduceNeg, Nat.reduceAdd, Nat.reduceEqDiff, Nat.reduceBEq, ↓z_x_eq, z_g_t, z_bI_s, z_bL_s, z_bR_s, z_bV_s, Int.cast_ofNat_Int, beq_self_eq_true, Bool.and_true, Bool.true_and, Bool.and_self, Bool.or_true, Bool.true_or, Bool.false_and, Bool.and_false, Bool.false_or, Bool.or_false, Bool.not_false, Bool.not_true, if_true, if_false, ite_true, ite_false, z_up_eq, z_up_app, z_ro_eq, iw, zb_f]
end
/-- two one behind the other -/
def j_cat (y : UN) (f : Nat → UN) : UN := if y.1 = 0 then ((f y.2.1).1, (f y.2.1).2.1, y.2.2 ++ (f y.2.1).2.2) else y
theorem j_tail_cat (K V : Nat → Int) (lo hi : Int) (l : List (Int × Int × Int)) (j : Nat) : j_tail K V lo hi l j = j_cat (j_tail K V lo hi [] j) (j_nums K V l) := by
  unfold j_tail j_cat
  by_cases c : K j = 2
  · rw [if_pos c, if_pos c]
    by_cases c2 : lo ≤ V j ∧ V j ≤ hi
    · rw [if_pos c2, if_pos c2]; rfl
    · rw [if_neg c2, if_neg c2]; rfl
  · rw [if_neg c, if_neg c]; rfl
theorem j_nums_cat (K V : Nat → Int) (f : Int × Int × Int) (l : List (Int × Int × Int)) (j : Nat) : j_nums K V (f :: l) j = j_cat (j_nums K V [f] j) (j_nums K V l) := by
  rw [j_nums_c, j_nums_c, j_tail_cat]
  unfold j_cat
  by_cases c : K j = f.1
  · rw [if_pos c, if_pos c]
  · rw [if_neg c, if_neg c]; rfl
section
variable {T : ZT} {G Gb : ZG} {s : ZG × ZG} {B A R0 : Int → Int} {L : Int}
/-- n_rs of two calls, the second where the first ended well -/
theorem n_rs_cat {e x : Int} (he : x + 1 ≤ e) {y : UN} {f : Nat → UN} {v : ZR} {c : ZR} (h1 : n_rs T B L R0 Gb A e x y v) (hl : y.1 = 0 → y.2.2.length = 1) (h0 : y.1 ≠ 0 → v = c) (h2 : y.1 = 0 → ∀ A' G' s', v = some (vi (iI 0), z_Y T G' s') → m_st B L R0 Gb A' y.2.1 G' (s'.2 80 11) → n_rs T B L R0 Gb A' e (x + 1) (f y.2.1) c) : n_rs T B L R0 Gb A e x (j_cat y f) c := by
  unfold j_cat
  by_cases z : y.1 = 0
  · rw [if_pos z]
    obtain ⟨A1, G1, s1, e1, m1, o1, v1⟩ := h1.1 z
    have k := h2 z A1 G1 s1 e1 m1
    have l1 := hl z
    rw [l1] at o1
    generalize f y.2.1 = u at *
    refine ⟨fun q => ?_, fun q => ?_⟩
    · obtain ⟨A2, G2, s2, e2, m2, o2, v2⟩ := k.1 q
      refine ⟨A2, G2, s2, e2, m2, fun i a => ?_, fun i a => ?_⟩
      · have a' : ¬ (x ≤ i ∧ i < x + ((y.2.2 ++ u.2.2).length : Nat)) := a
        rw [List.length_append] at a'
        rw [o2 i (by omega), o1 i (by omega)]
      · have a' : i < (y.2.2 ++ u.2.2).length := a
        rw [List.length_append] at a'
        show A2 (x + i) = (y.2.2 ++ u.2.2).getD i 0
        by_cases i0 : i = 0
        · have e : (y.2.2 ++ u.2.2).getD i 0 = y.2.2.getD i 0 := by
            rw [List.getD_eq_getElem?_getD, List.getD_eq_getElem?_getD, List.getElem?_append_left (by omega)]
          rw [e, o2 _ (by omega)]
          exact v1 i (by omega)
        · have e : (y.2.2 ++ u.2.2).getD i 0 = u.2.2.getD (i - 1) 0 := by
            rw [List.getD_eq_getElem?_getD, List.getD_eq_getElem?_getD, List.getElem?_append_right (by omega), l1]
          rw [e, ← v2 (i - 1) (by omega)]
          congr 1
          omega
    · obtain ⟨bd, A2, G2, s2, e2, m2, o2⟩ := k.2 q
      exact ⟨bd, A2, G2, s2, e2, m2, fun i a => by rw [o2 i (by omega), o1 i (by omega)]⟩
  · rw [if_neg z]
    refine ⟨fun q => absurd q z, fun _ => ?_⟩
    rw [← h0 z]; exact h1.2 z
end
section
variable {T : ZT} {G Gb : ZG} {s : ZG × ZG} {B A R0 : Int → Int} {L : Int}
theorem n_rs_id {e x : Int} {y : UN} {v : ZR} (h : n_rs T B L R0 Gb A e x y v) : n_rs T B L R0 Gb A e x y (z_bI v (fun v σ => some (vi v, σ))) := by
  refine ⟨fun z => ?_, fun z => ?_⟩
  · obtain ⟨A', G', s', e1, r⟩ := h.1 z
    exact ⟨A', G', s', by rw [e1]; rfl, r⟩
  · obtain ⟨bd, A', G', s', e1, r⟩ := h.2 z
    exact ⟨bd, A', G', s', by rw [e1]; rfl, r⟩
theorem j_tail_1 {K V : Nat → Int} {lo hi : Int} {j : Nat} (h : (j_tail K V lo hi [] j).1 = 0) : (j_tail K V lo hi [] j).2.2.length = 1 := by
  unfold j_tail at h ⊢
  by_cases c : K j = 2
  · rw [if_pos c] at h ⊢
    by_cases c2 : lo ≤ V j ∧ V j ≤ hi
    · rw [if_pos c2]; rfl
    · rw [if_neg c2] at h; cases h
  · rw [if_neg c] at h; cases h
theorem j_nums_1 {K V : Nat → Int} {f : Int × Int × Int} {j : Nat} (h : (j_nums K V [f] j).1 = 0) : (j_nums K V [f] j).2.2.length = 1 := by
  rw [j_nums_c] at h ⊢
  by_cases c : K j = f.1
  · rw [if_pos c] at h ⊢; exact j_tail_1 h
  · rw [if_neg c] at h; cases h
theorem p_pairm {E : Nat} (hE : 5 ≤ E) (hB : y_tm Gb B L) (h4 : R0 4 = L) {j : Nat} (h : m_st B L R0 Gb A j G (s.2 80 11)) {e x hi hi2 k : Int} (hx : 0 ≤ x ∧ x + 2 < 2820) (he : x + 2 ≤ e) (hl : 0 ≤ hi ∧ hi ≤ 9999) (hl2 : 0 ≤ hi2 ∧ hi2 ≤ 9999) (hk : 0 ≤ k ∧ k < 27) : n_rs T B L R0 Gb A e (x + 1) (j_tail (n_K B L) (n_V B L) 0 hi [(18 + k, 0, hi2)] j) (z_call E 107 [vr 80, vi (iI x), vi (iI hi), vl (lI (y_ww k)), vi (iI hi2)] (z_Y T G s)) := by
  obtain ⟨d, rfl⟩ : ∃ d, E = d + 1 := ⟨E - 1, by omega⟩
  rw [j_tail_cat]
  have f := p_figure (T := T) (s := s) (E := d) (e := e) (by omega) hB h4 h (x := x + 1) (lo := 0) (hi := hi) (by omega) (by omega)
  refine n_rs_cat (by omega) f j_tail_1 (fun z => ?_) (fun z A' G' s' e1 m1 => ?_)
  · obtain ⟨bd, A', G', s', e1, -⟩ := f.2 z
    generalize j_tail (n_K B L) (n_V B L) 0 hi [] j = y at *
    have z' : (y.1 = 0) = False := eq_false z
    rw [e1, e_M_pair]
    simp -implicitDefEqProofs (disch := first | assumption | omega | rfl | (simp only [z_up_eq, z_up_app, ↓reduceIte, Nat.reduceEqDiff]; omega)) only [z_lit0, z_lit1, z_lit2, z_litl, iI_add, iI_sub, iI_mul, iI_neg, iI_and, iI_or, iI_xor, iI_shl, iI_shr, iI_ushr, iI_div, iI_b, iI_c, iI_i2l, lI_l2i, lI_add, lI_sub, lI_mul, lI_neg, lI_div, lI_or, lI_and, lI_shl, lI_shr, nI_iI, lg_lt0, lg_gt0, lg_eq0, i_ne0', l_ne0', iI_lt, iI_le, iI_eq, lI_lt, lI_le, lI_eq, zb_0, zb_fit, zb_fit0, zb_fit1, i_one_zero, i_w_in, z_tb0, z_tb1, z_tb2, z_tb3, z_tb4, z_tb5, z_tb6, z_tb7, z_tb8, z_tbl, z_tu0, z_tu1, z_tu2, z_i_62, z_i_63, z_i_86, z_i_88, z_l_Y, z_ui_62, z_ui_63, z_ui_86, z_ui_88, z_ul_Y, z_sz_Y, z_sw_Y, iI_nat, z_ix_t, z_at, Int.add_zero, Int.sub_zero, Int.zero_add, Int.mul_zero, ne_eq, Bool.false_eq_true, Bool.true_eq_false, reduceCtorEq, eq_self, and_true, true_and, and_false, false_and, and_self, not_true_eq_false, not_false_eq_true, decide_true, decide_false, ↓reduceIte, Int.reduceEq, Int.reduceNe, Int.reduceLT, Int.reduceLE, Int.reduceAdd, Int.reduceSub, Int.reduceMul, Int.reduceNeg, Nat.reduceAdd, Nat.reduceEqDiff, Nat.reduceBEq, ↓z_x_eq, z_g_t, z_bI_s, z_bL_s, z_bR_s, z_bV_s, Int.cast_ofNat_Int, beq_self_eq_true, Bool.and_true, Bool.true_and, Bool.and_self, Bool.or_true, Bool.true_or, Bool.false_and, Bool.and_false, Bool.false_or, Bool.or_false, Bool.not_false, Bool.not_true, if_true, if_false, ite_true, ite_false, z_up_eq, z_up_app, z_ro_eq, e1, z']
  · have w := p_worded (T := T) (s := s') (E := d) (e := e) (by omega) hB h4 m1 (x := x + 1 + 1) (lo := 0) (hi := hi2) (k := k) (by omega) (by omega) hk
    have em : z_call (d + 1) 107 [vr 80, vi (iI x), vi (iI hi), vl (lI (y_ww k)), vi (iI hi2)] (z_Y T G s) = z_bI (z_call d 106 [vr 80, vl (lI (y_ww k)), vi (iI (x + 1 + 1)), vi (iI 0), vi (iI hi2)] (z_Y T G' s')) (fun v σ => some (vi v, σ)) := by
      rw [e_M_pair, show x + 1 + 1 = x + 2 by omega]
      simp -implicitDefEqProofs (disch := first | assumption | omega | rfl | (simp only [z_up_eq, z_up_app, ↓reduceIte, Nat.reduceEqDiff]; omega)) only [z_lit0, z_lit1, z_lit2, z_litl, iI_add, iI_sub, iI_mul, iI_neg, iI_and, iI_or, iI_xor, iI_shl, iI_shr, iI_ushr, iI_div, iI_b, iI_c, iI_i2l, lI_l2i, lI_add, lI_sub, lI_mul, lI_neg, lI_div, lI_or, lI_and, lI_shl, lI_shr, nI_iI, lg_lt0, lg_gt0, lg_eq0, i_ne0', l_ne0', iI_lt, iI_le, iI_eq, lI_lt, lI_le, lI_eq, zb_0, zb_fit, zb_fit0, zb_fit1, i_one_zero, i_w_in, z_tb0, z_tb1, z_tb2, z_tb3, z_tb4, z_tb5, z_tb6, z_tb7, z_tb8, z_tbl, z_tu0, z_tu1, z_tu2, z_i_62, z_i_63, z_i_86, z_i_88, z_l_Y, z_ui_62, z_ui_63, z_ui_86, z_ui_88, z_ul_Y, z_sz_Y, z_sw_Y, iI_nat, z_ix_t, z_at, Int.add_zero, Int.sub_zero, Int.zero_add, Int.mul_zero, ne_eq, Bool.false_eq_true, Bool.true_eq_false, reduceCtorEq, eq_self, and_true, true_and, and_false, false_and, and_self, not_true_eq_false, not_false_eq_true, decide_true, decide_false, ↓reduceIte, Int.reduceEq, Int.reduceNe, Int.reduceLT, Int.reduceLE, Int.reduceAdd, Int.reduceSub, Int.reduceMul, Int.reduceNeg, Nat.reduceAdd, Nat.reduceEqDiff, Nat.reduceBEq, ↓z_x_eq, z_g_t, z_bI_s, z_bL_s, z_bR_s, z_bV_s, Int.cast_ofNat_Int, beq_self_eq_true, Bool.and_true, Bool.true_and, Bool.and_self, Bool.or_true, Bool.true_or, Bool.false_and, Bool.and_false, Bool.false_or, Bool.or_false, Bool.not_false, Bool.not_true, if_true, if_false, ite_true, ite_false, z_up_eq, z_up_app, z_ro_eq, e1]
    rw [em]; exact n_rs_id w
theorem p_onem {E : Nat} (hE : 6 ≤ E) (hB : y_tm Gb B L) (h4 : R0 4 = L) {j : Nat} (h : m_st B L R0 Gb A j G (s.2 80 11)) {e x : Int} (hx : 0 ≤ x ∧ x + 3 < 2820) (he : x + 4 ≤ e) : n_rs T B L R0 Gb A e (x + 1) (j_tail (n_K B L) (n_V B L) 1 9 [(20, 1, 9), (39, 0, 17)] j) (z_call E 108 [vr 80, vi (iI x)] (z_Y T G s)) := by
  obtain ⟨d, rfl⟩ : ∃ d, E = d + 1 := ⟨E - 1, by omega⟩
  rw [j_tail_cat]
  have f := p_figure (T := T) (s := s) (E := d) (e := e) (by omega) hB h4 h (x := x + 1) (lo := 1) (hi := 9) (by omega) (by omega)
  have w2 := fun σ => p_wd2 (E := d) (by omega) σ
  have w21 := fun σ => p_wd21 (E := d) (by omega) σ
  refine n_rs_cat (by omega) f j_tail_1 (fun z => ?_) (fun z A' G' s' e1 m1 => ?_)
  · obtain ⟨bd, A', G', s', e1, -⟩ := f.2 z
    generalize j_tail (n_K B L) (n_V B L) 1 9 [] j = y at *
    have z' : (y.1 = 0) = False := eq_false z
    rw [e1, e_M_oneClause]
    simp -implicitDefEqProofs (disch := first | assumption | omega | rfl | (simp only [z_up_eq, z_up_app, ↓reduceIte, Nat.reduceEqDiff]; omega)) only [z_lit0, z_lit1, z_lit2, z_litl, iI_add, iI_sub, iI_mul, iI_neg, iI_and, iI_or, iI_xor, iI_shl, iI_shr, iI_ushr, iI_div, iI_b, iI_c, iI_i2l, lI_l2i, lI_add, lI_sub, lI_mul, lI_neg, lI_div, lI_or, lI_and, lI_shl, lI_shr, nI_iI, lg_lt0, lg_gt0, lg_eq0, i_ne0', l_ne0', iI_lt, iI_le, iI_eq, lI_lt, lI_le, lI_eq, zb_0, zb_fit, zb_fit0, zb_fit1, i_one_zero, i_w_in, z_tb0, z_tb1, z_tb2, z_tb3, z_tb4, z_tb5, z_tb6, z_tb7, z_tb8, z_tbl, z_tu0, z_tu1, z_tu2, z_i_62, z_i_63, z_i_86, z_i_88, z_l_Y, z_ui_62, z_ui_63, z_ui_86, z_ui_88, z_ul_Y, z_sz_Y, z_sw_Y, iI_nat, z_ix_t, z_at, Int.add_zero, Int.sub_zero, Int.zero_add, Int.mul_zero, ne_eq, Bool.false_eq_true, Bool.true_eq_false, reduceCtorEq, eq_self, and_true, true_and, and_false, false_and, and_self, not_true_eq_false, not_false_eq_true, decide_true, decide_false, ↓reduceIte, Int.reduceEq, Int.reduceNe, Int.reduceLT, Int.reduceLE, Int.reduceAdd, Int.reduceSub, Int.reduceMul, Int.reduceNeg, Nat.reduceAdd, Nat.reduceEqDiff, Nat.reduceBEq, ↓z_x_eq, z_g_t, z_bI_s, z_bL_s, z_bR_s, z_bV_s, Int.cast_ofNat_Int, beq_self_eq_true, Bool.and_true, Bool.true_and, Bool.and_self, Bool.or_true, Bool.true_or, Bool.false_and, Bool.and_false, Bool.false_or, Bool.or_false, Bool.not_false, Bool.not_true, if_true, if_false, ite_true, ite_false, z_up_eq, z_up_app, z_ro_eq, e1, z']
  · rw [j_nums_cat]
    have g := p_worded (T := T) (s := s') (E := d) (e := e) (by omega) hB h4 m1 (x := x + 1 + 1) (lo := 1) (hi := 9) (k := 2) (by omega) (by omega) (by omega)
    rw [show (18 : Int) + 2 = 20 from rfl] at g
    refine n_rs_cat (by omega) g j_nums_1 (fun z2 => ?_) (fun z2 A2 G2 s2 e2 m2 => ?_)
    · obtain ⟨bd, A3, G3, s3, e2, -⟩ := g.2 z2
      generalize j_nums (n_K B L) (n_V B L) [(20, 1, 9)] (j_tail (n_K B L) (n_V B L) 1 9 [] j).2.1 = y at *
      have z' : (y.1 = 0) = False := eq_false z2
      rw [e2, e_M_oneClause]
      rw [show x + 1 + 1 = x + 2 by omega] at e2
      simp -implicitDefEqProofs (disch := first | assumption | omega | rfl | (simp only [z_up_eq, z_up_app, ↓reduceIte, Nat.reduceEqDiff]; omega)) only [z_lit0, z_lit1, z_lit2, z_litl, iI_add, iI_sub, iI_mul, iI_neg, iI_and, iI_or, iI_xor, iI_shl, iI_shr, iI_ushr, iI_div, iI_b, iI_c, iI_i2l, lI_l2i, lI_add, lI_sub, lI_mul, lI_neg, lI_div, lI_or, lI_and, lI_shl, lI_shr, nI_iI, lg_lt0, lg_gt0, lg_eq0, i_ne0', l_ne0', iI_lt, iI_le, iI_eq, lI_lt, lI_le, lI_eq, zb_0, zb_fit, zb_fit0, zb_fit1, i_one_zero, i_w_in, z_tb0, z_tb1, z_tb2, z_tb3, z_tb4, z_tb5, z_tb6, z_tb7, z_tb8, z_tbl, z_tu0, z_tu1, z_tu2, z_i_62, z_i_63, z_i_86, z_i_88, z_l_Y, z_ui_62, z_ui_63, z_ui_86, z_ui_88, z_ul_Y, z_sz_Y, z_sw_Y, iI_nat, z_ix_t, z_at, Int.add_zero, Int.sub_zero, Int.zero_add, Int.mul_zero, ne_eq, Bool.false_eq_true, Bool.true_eq_false, reduceCtorEq, eq_self, and_true, true_and, and_false, false_and, and_self, not_true_eq_false, not_false_eq_true, decide_true, decide_false, ↓reduceIte, Int.reduceEq, Int.reduceNe, Int.reduceLT, Int.reduceLE, Int.reduceAdd, Int.reduceSub, Int.reduceMul, Int.reduceNeg, Nat.reduceAdd, Nat.reduceEqDiff, Nat.reduceBEq, ↓z_x_eq, z_g_t, z_bI_s, z_bL_s, z_bR_s, z_bV_s, Int.cast_ofNat_Int, beq_self_eq_true, Bool.and_true, Bool.true_and, Bool.and_self, Bool.or_true, Bool.true_or, Bool.false_and, Bool.and_false, Bool.false_or, Bool.or_false, Bool.not_false, Bool.not_true, if_true, if_false, ite_true, ite_false, z_up_eq, z_up_app, z_ro_eq, e1, w2, e2, z']
    · have w := p_worded (T := T) (s := s2) (E := d) (e := e) (by omega) hB h4 m2 (x := x + 1 + 1 + 1) (lo := 0) (hi := 17) (k := 21) (by omega) (by omega) (by omega)
      rw [show (18 : Int) + 21 = 39 from rfl] at w
      have em : z_call (d + 1) 108 [vr 80, vi (iI x)] (z_Y T G s) = z_bI (z_call d 106 [vr 80, vl (lI (y_ww 21)), vi (iI (x + 1 + 1 + 1)), vi (iI 0), vi (iI 17)] (z_Y T G2 s2)) (fun v σ => some (vi v, σ)) := by
        rw [show x + 1 + 1 = x + 2 by omega] at e2
        rw [e_M_oneClause, show x + 1 + 1 + 1 = x + 3 by omega]
        simp -implicitDefEqProofs (disch := first | assumption | omega | rfl | (simp only [z_up_eq, z_up_app, ↓reduceIte, Nat.reduceEqDiff]; omega)) only [z_lit0, z_lit1, z_lit2, z_litl, iI_add, iI_sub, iI_mul, iI_neg, iI_and, iI_or, iI_xor, iI_shl, iI_shr, iI_ushr, iI_div, iI_b, iI_c, iI_i2l, lI_l2i, lI_add, lI_sub, lI_mul, lI_neg, lI_div, lI_or, lI_and, lI_shl, lI_shr, nI_iI, lg_lt0, lg_gt0, lg_eq0, i_ne0', l_ne0', iI_lt, iI_le, iI_eq, lI_lt, lI_le, lI_eq, zb_0, zb_fit, zb_fit0, zb_fit1, i_one_zero, i_w_in, z_tb0, z_tb1, z_tb2, z_tb3, z_tb4, z_tb5, z_tb6, z_tb7, z_tb8, z_tbl, z_tu0, z_tu1, z_tu2, z_i_62, z_i_63, z_i_86, z_i_88, z_l_Y, z_ui_62, z_ui_63, z_ui_86, z_ui_88, z_ul_Y, z_sz_Y, z_sw_Y, iI_nat, z_ix_t, z_at, Int.add_zero, Int.sub_zero, Int.zero_add, Int.mul_zero, ne_eq, Bool.false_eq_true, Bool.true_eq_false, reduceCtorEq, eq_self, and_true, true_and, and_false, false_and, and_self, not_true_eq_false, not_false_eq_true, decide_true, decide_false, ↓reduceIte, Int.reduceEq, Int.reduceNe, Int.reduceLT, Int.reduceLE, Int.reduceAdd, Int.reduceSub, Int.reduceMul, Int.reduceNeg, Nat.reduceAdd, Nat.reduceEqDiff, Nat.reduceBEq, ↓z_x_eq, z_g_t, z_bI_s, z_bL_s, z_bR_s, z_bV_s, Int.cast_ofNat_Int, beq_self_eq_true, Bool.and_true, Bool.true_and, Bool.and_self, Bool.or_true, Bool.true_or, Bool.false_and, Bool.and_false, Bool.false_or, Bool.or_false, Bool.not_false, Bool.not_true, if_true, if_false, ite_true, ite_false, z_up_eq, z_up_app, z_ro_eq, e1, w2, e2, w21]
      rw [em]; exact n_rs_id w
end

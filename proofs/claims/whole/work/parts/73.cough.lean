/-! THE PURE PART, 53: cough -/
def k_spr (G : ZG) (p : Int) : ZG := if G 21 p = -1 then k_cg G p else k_wk (-1) 10 p (G 21 p + -1) (k_wk 1 10 p (G 21 p + 1) (k_cg G p))
def m_spr (X A : Int → Int) (p : Int) : Int → Int := if A (32 + 5 * p + 3) = -1 then m_cg A p else m_wk X (-1) 10 p (m_wk X 1 10 p (m_cg A p))
theorem k_spr_fr (G : ZG) (p : Int) : k_fr G (k_spr G p) := by
  unfold k_spr
  split
  · exact k_cg_fr G p
  · exact k_fr_tr (k_cg_fr G p) (k_fr_tr (k_wk_fr _ _ _ _ _) (k_wk_fr _ _ _ _ _))
theorem C_spr {A : Int → Int} {G : ZG} (hC : c_nw A G) {p : Int} (hp : 0 ≤ p ∧ p < A 1) : c_nw (m_spr (G 83) A p) (k_spr G p) ∧ m_fr A (m_spr (G 83) A p) := by
  have m1 := hC.1.2.1
  have m11 := hC.1.2.2.2.2.2.2.2.2.2.2.2.1
  have o := (dw_o hC p hp.1 hp.2).1
  have hg := D_cg hC hp
  have fr1 := m_cg_fr A p m11.1
  have kf1 := k_cg_fr G p
  unfold m_spr k_spr
  rw [o]
  by_cases c : A (32 + 5 * p + 3) = -1
  · rw [if_pos c, if_pos c]; exact ⟨hg, fr1⟩
  · rw [if_neg c, if_neg c]
    have f1 := fr1 1 (by omega) (by omega) (by omega)
    have f3 := fr1 (32 + 5 * p + 3) (by omega) (by omega) (by omega)
    have g83 : k_cg G p 83 = G 83 := kf1.1 83 (by omega) (by omega) (by omega)
    have hw := C_wk (w := 1) 10 p _ _ hg (by rw [f1]; exact hp) (by rw [f3]; exact c)
    rw [f3, g83] at hw
    have fr2 := m_wk_fr (G 83) 1 10 p _ hg.1 (by rw [f1]; exact hp)
    have fr12 := m_fr_tr fr1 fr2
    have kf2 := k_fr_tr kf1 (k_wk_fr 1 10 p (A (32 + 5 * p + 3) + 1) (k_cg G p))
    have f1' := fr12 1 (by omega) (by omega) (by omega)
    have f3' := fr12 (32 + 5 * p + 3) (by omega) (by omega) (by omega)
    have g83' := kf2.1 83 (by omega) (by omega) (by omega)
    have hw2 := C_wk (w := -1) 10 p _ _ hw (by rw [f1']; exact hp) (by rw [f3']; exact c)
    rw [f3', g83'] at hw2
    exact ⟨hw2, m_fr_tr fr12 (m_wk_fr (G 83) (-1) 10 p _ hw.1 (by rw [f1']; exact hp))⟩
theorem k_cg_mono (G : ZG) (p : Int) : G 20 5 ≤ k_cg G p 20 5 := by
  unfold k_cg
  split
  · rw [z_up_ne _ _ (by omega), z_up_ne _ _ (by omega), z_up_eq, z_ro_eq]; omega
  · exact Int.le_refl _
theorem k_dr_5 (G : ZG) : k_dr G 20 5 = G 20 5 := by unfold k_dr; rw [z_up_eq, z_ro_ne _ _ (by omega)]
theorem k_wk_mono (w : Int) : ∀ (n : Nat) (f t : Int) (G : ZG), G 20 5 ≤ k_wk w n f t G 20 5
  | 0, _, _, _ => Int.le_refl _
  | n + 1, f, t, G => by
    unfold k_wk
    split
    · split
      · exact Int.le_refl _
      · split
        · have h1 := k_wk_mono w n (k_sit G t) (t + w) (k_cg (k_dr G) (k_sit G t))
          have h2 := k_cg_mono (k_dr G) (k_sit G t)
          rw [k_dr_5] at h2
          omega
        · rw [k_dr_5]; exact Int.le_refl _
    · exact Int.le_refl _
theorem k_spr_mono (G : ZG) (p : Int) : G 20 5 ≤ k_spr G p 20 5 := by
  unfold k_spr
  have h0 := k_cg_mono G p
  split
  · exact h0
  · have h1 := k_wk_mono 1 10 p (G 21 p + 1) (k_cg G p)
    have h2 := k_wk_mono (-1) 10 p (G 21 p + -1) (k_wk 1 10 p (G 21 p + 1) (k_cg G p))
    omega
theorem m_wk_ok (X : Int → Int) (w : Int) : ∀ (n : Nat) (f : Int) (A : Int → Int), m_ok A → (0 ≤ f ∧ f < A 1) → m_ok (m_wk X w n f A)
  | 0, _, _, hM, _ => hM
  | n + 1, f, A, hM, hf => by
    have m11 := hM.2.2.2.2.2.2.2.2.2.2.2.1
    have m1 := hM.2.1
    unfold m_wk
    generalize A (32 + 5 * f + 3) + w = st at *
    split
    · split
      · exact hM
      · rename_i c3
        split
        · rcases m_sit_or (x := st) hM with h | ⟨h1, h2, h3⟩
          · exact absurd h c3
          · have e11 : m_dr A 11 = A 11 := z_ro_ne _ _ (by omega)
            have fr : m_fr A (m_cg (m_dr A) (m_sit A st)) := m_fr_tr (m_dr_fr A) (m_cg_fr _ _ (by rw [e11]; exact m11.1))
            have f1 := fr 1 (by omega) (by omega) (by omega)
            exact m_wk_ok X w n _ _ (m_cg_ok (m_dr_ok hM) ⟨h1, by omega⟩) (by rw [f1]; exact ⟨h1, h2⟩)
        · exact m_dr_ok hM
    · exact hM
theorem p_spread (d : Nat) (T : ZT) (G : ZG) (s : ZG × ZG) {A : Int → Int} {p : Int} (hC : c_nw A G) (hT : t_okA T A G) (hp : 0 ≤ p ∧ p < A 1) : ∃ s', z_call (d + 5) 152 [vr 65, vi (iI p)] (z_Y T G s) = some (vi (iI 0), z_Y T (k_spr G p) s') := by
  have m0 := hC.1.1
  have m1 := hC.1.2.1
  have m11 := hC.1.2.2.2.2.2.2.2.2.2.2.2.1
  have o := (dw_o hC p hp.1 hp.2).1
  have mp := (mo_p hC.1 p hp.1 hp.2).2.2.2.1
  have hg := D_cg hC hp
  have fr1 := m_cg_fr A p m11.1
  have kf1 := k_cg_fr G p
  have f1 := fr1 1 (by omega) (by omega) (by omega)
  have f3 := fr1 (32 + 5 * p + 3) (by omega) (by omega) (by omega)
  have e21 : k_cg G p 21 = G 21 := kf1.1 21 (by omega) (by omega) (by omega)
  have kc := fun s => p_keepCough (d + 2) T G s hC (p := p) ⟨by omega, by omega⟩
  by_cases c : A (32 + 5 * p + 3) = -1
  · have ke : k_spr G p = k_cg G p := by unfold k_spr; rw [if_pos (o.trans c)]
    rw [ke]
    refine ⟨s, ?_⟩
    rw [e_De_spread]
    simp -implicitDefEqProofs (disch := first | assumption | omega | rfl | (simp only [z_up_eq, z_up_app, ↓reduceIte, Nat.reduceEqDiff]; omega)) only [z_lit0, z_lit1, z_lit2, z_litl, iI_add, iI_sub, iI_mul, iI_neg, iI_and, iI_or, iI_xor, iI_shl, iI_shr, iI_ushr, iI_div, iI_b, iI_c, iI_i2l, lI_l2i, lI_add, lI_sub, lI_mul, lI_neg, lI_div, lI_or, lI_and, lI_shl, lI_shr, nI_iI, lg_lt0, lg_gt0, lg_eq0, i_ne0', l_ne0', iI_lt, iI_le, iI_eq, lI_lt, lI_le, lI_eq, zb_0, zb_fit, zb_fit0, zb_fit1, i_one_zero, i_w_in, z_tb0, z_tb1, z_tb2, z_tb3, z_tb4, z_tb5, z_tb6, z_tb7, z_tb8, z_tbl, z_tu0, z_tu1, z_tu2, z_i_62, z_i_63, z_i_86, z_i_88, z_l_Y, z_ui_62, z_ui_63, z_ui_86, z_ui_88, z_ul_Y, z_sz_Y, z_sw_Y, iI_nat, z_ix_t, z_at, Int.add_zero, Int.sub_zero, Int.zero_add, Int.mul_zero, ne_eq, Bool.false_eq_true, Bool.true_eq_false, reduceCtorEq, eq_self, and_true, true_and, and_false, false_and, and_self, not_true_eq_false, not_false_eq_true, decide_true, decide_false, ↓reduceIte, Int.reduceEq, Int.reduceNe, Int.reduceLT, Int.reduceLE, Int.reduceAdd, Int.reduceSub, Int.reduceMul, Int.reduceNeg, Nat.reduceAdd, Nat.reduceEqDiff, Nat.reduceBEq, ↓z_x_eq, z_g_t, z_bI_s, z_bL_s, z_bR_s, z_bV_s, Int.cast_ofNat_Int, beq_self_eq_true, Bool.and_true, Bool.true_and, Bool.and_self, Bool.or_true, Bool.true_or, Bool.false_and, Bool.and_false, Bool.false_or, Bool.or_false, Bool.not_false, Bool.not_true, if_true, if_false, ite_true, ite_false, z_up_eq, z_up_app, z_ro_eq, kc, e21, o, c]
    rw [e_De_spread_20]
    simp -implicitDefEqProofs (disch := first | assumption | omega | rfl | (simp only [z_up_eq, z_up_app, ↓reduceIte, Nat.reduceEqDiff]; omega)) only [z_lit0, z_lit1, z_lit2, z_litl, iI_add, iI_sub, iI_mul, iI_neg, iI_and, iI_or, iI_xor, iI_shl, iI_shr, iI_ushr, iI_div, iI_b, iI_c, iI_i2l, lI_l2i, lI_add, lI_sub, lI_mul, lI_neg, lI_div, lI_or, lI_and, lI_shl, lI_shr, nI_iI, lg_lt0, lg_gt0, lg_eq0, i_ne0', l_ne0', iI_lt, iI_le, iI_eq, lI_lt, lI_le, lI_eq, zb_0, zb_fit, zb_fit0, zb_fit1, i_one_zero, i_w_in, z_tb0, z_tb1, z_tb2, z_tb3, z_tb4, z_tb5, z_tb6, z_tb7, z_tb8, z_tbl, z_tu0, z_tu1, z_tu2, z_i_62, z_i_63, z_i_86, z_i_88, z_l_Y, z_ui_62, z_ui_63, z_ui_86, z_ui_88, z_ul_Y, z_sz_Y, z_sw_Y, iI_nat, z_ix_t, z_at, Int.add_zero, Int.sub_zero, Int.zero_add, Int.mul_zero, ne_eq, Bool.false_eq_true, Bool.true_eq_false, reduceCtorEq, eq_self, and_true, true_and, and_false, false_and, and_self, not_true_eq_false, not_false_eq_true, decide_true, decide_false, ↓reduceIte, Int.reduceEq, Int.reduceNe, Int.reduceLT, Int.reduceLE, Int.reduceAdd, Int.reduceSub, Int.reduceMul, Int.reduceNeg, Nat.reduceAdd, Nat.reduceEqDiff, Nat.reduceBEq, ↓z_x_eq, z_g_t, z_bI_s, z_bL_s, z_bR_s, z_bV_s, Int.cast_ofNat_Int, beq_self_eq_true, Bool.and_true, Bool.true_and, Bool.and_self, Bool.or_true, Bool.true_or, Bool.false_and, Bool.and_false, Bool.false_or, Bool.or_false, Bool.not_false, Bool.not_true, if_true, if_false, ite_true, ite_false, z_up_eq, z_up_app, z_ro_eq]
  · have ke : k_spr G p = k_wk (-1) 10 p (A (32 + 5 * p + 3) + -1) (k_wk 1 10 p (A (32 + 5 * p + 3) + 1) (k_cg G p)) := by unfold k_spr; rw [o, if_neg c]
    rw [ke]
    have hT1 : t_okA T (m_cg A p) (k_cg G p) := t_okA_fr hT (fr1 5 (by omega) (by omega) (by omega)) (kf1.1 83 (by omega) (by omega) (by omega)) (fun r a => kf1.1 r (by omega) (by omega) (by omega))
    obtain ⟨s1, w1⟩ := p_wk d T (w := 1) (p := p) (st := A (32 + 5 * p + 3)) (Or.inl rfl) 10 p (A (32 + 5 * p + 3) + 1) _ _ s hg hT1 (by rw [f1]; exact hp) (by rw [f3]; exact c) (fun _ => by omega) (fun h => by omega) (by omega)
    have hw := C_wk (w := 1) 10 p _ _ hg (by rw [f1]; exact hp) (by rw [f3]; exact c)
    rw [f3] at hw
    have fr2 := m_fr_tr fr1 (m_wk_fr (k_cg G p 83) 1 10 p _ hg.1 (by rw [f1]; exact hp))
    have kf2 := k_fr_tr kf1 (k_wk_fr 1 10 p (A (32 + 5 * p + 3) + 1) (k_cg G p))
    have f1' := fr2 1 (by omega) (by omega) (by omega)
    have f3' := fr2 (32 + 5 * p + 3) (by omega) (by omega) (by omega)
    have hT2 := t_okA_fr hT (fr2 5 (by omega) (by omega) (by omega)) (kf2.1 83 (by omega) (by omega) (by omega)) (fun r a => kf2.1 r (by omega) (by omega) (by omega))
    obtain ⟨s2, w2⟩ := p_wk d T (w := -1) (p := p) (st := A (32 + 5 * p + 3)) (Or.inr rfl) 10 p (A (32 + 5 * p + 3) + -1) _ _ s1 hw hT2 (by rw [f1']; exact hp) (by rw [f3']; exact c) (fun h => by omega) (fun _ => by omega) (by omega)
    refine ⟨s2, ?_⟩
    rw [e_De_spread]
    simp -implicitDefEqProofs (disch := first | assumption | omega | rfl | (simp only [z_up_eq, z_up_app, ↓reduceIte, Nat.reduceEqDiff]; omega)) only [z_lit0, z_lit1, z_lit2, z_litl, iI_add, iI_sub, iI_mul, iI_neg, iI_and, iI_or, iI_xor, iI_shl, iI_shr, iI_ushr, iI_div, iI_b, iI_c, iI_i2l, lI_l2i, lI_add, lI_sub, lI_mul, lI_neg, lI_div, lI_or, lI_and, lI_shl, lI_shr, nI_iI, lg_lt0, lg_gt0, lg_eq0, i_ne0', l_ne0', iI_lt, iI_le, iI_eq, lI_lt, lI_le, lI_eq, zb_0, zb_fit, zb_fit0, zb_fit1, i_one_zero, i_w_in, z_tb0, z_tb1, z_tb2, z_tb3, z_tb4, z_tb5, z_tb6, z_tb7, z_tb8, z_tbl, z_tu0, z_tu1, z_tu2, z_i_62, z_i_63, z_i_86, z_i_88, z_l_Y, z_ui_62, z_ui_63, z_ui_86, z_ui_88, z_ul_Y, z_sz_Y, z_sw_Y, iI_nat, z_ix_t, z_at, Int.add_zero, Int.sub_zero, Int.zero_add, Int.mul_zero, ne_eq, Bool.false_eq_true, Bool.true_eq_false, reduceCtorEq, eq_self, and_true, true_and, and_false, false_and, and_self, not_true_eq_false, not_false_eq_true, decide_true, decide_false, ↓reduceIte, Int.reduceEq, Int.reduceNe, Int.reduceLT, Int.reduceLE, Int.reduceAdd, Int.reduceSub, Int.reduceMul, Int.reduceNeg, Nat.reduceAdd, Nat.reduceEqDiff, Nat.reduceBEq, ↓z_x_eq, z_g_t, z_bI_s, z_bL_s, z_bR_s, z_bV_s, Int.cast_ofNat_Int, beq_self_eq_true, Bool.and_true, Bool.true_and, Bool.and_self, Bool.or_true, Bool.true_or, Bool.false_and, Bool.and_false, Bool.false_or, Bool.or_false, Bool.not_false, Bool.not_true, if_true, if_false, ite_true, ite_false, z_up_eq, z_up_app, z_ro_eq, kc, e21, o]
    rw [e_De_spread_20]
    simp -implicitDefEqProofs (disch := first | assumption | omega | rfl | (simp only [z_up_eq, z_up_app, ↓reduceIte, Nat.reduceEqDiff]; omega)) only [z_lit0, z_lit1, z_lit2, z_litl, iI_add, iI_sub, iI_mul, iI_neg, iI_and, iI_or, iI_xor, iI_shl, iI_shr, iI_ushr, iI_div, iI_b, iI_c, iI_i2l, lI_l2i, lI_add, lI_sub, lI_mul, lI_neg, lI_div, lI_or, lI_and, lI_shl, lI_shr, nI_iI, lg_lt0, lg_gt0, lg_eq0, i_ne0', l_ne0', iI_lt, iI_le, iI_eq, lI_lt, lI_le, lI_eq, zb_0, zb_fit, zb_fit0, zb_fit1, i_one_zero, i_w_in, z_tb0, z_tb1, z_tb2, z_tb3, z_tb4, z_tb5, z_tb6, z_tb7, z_tb8, z_tbl, z_tu0, z_tu1, z_tu2, z_i_62, z_i_63, z_i_86, z_i_88, z_l_Y, z_ui_62, z_ui_63, z_ui_86, z_ui_88, z_ul_Y, z_sz_Y, z_sw_Y, iI_nat, z_ix_t, z_at, Int.add_zero, Int.sub_zero, Int.zero_add, Int.mul_zero, ne_eq, Bool.false_eq_true, Bool.true_eq_false, reduceCtorEq, eq_self, and_true, true_and, and_false, false_and, and_self, not_true_eq_false, not_false_eq_true, decide_true, decide_false, ↓reduceIte, Int.reduceEq, Int.reduceNe, Int.reduceLT, Int.reduceLE, Int.reduceAdd, Int.reduceSub, Int.reduceMul, Int.reduceNeg, Nat.reduceAdd, Nat.reduceEqDiff, Nat.reduceBEq, ↓z_x_eq, z_g_t, z_bI_s, z_bL_s, z_bR_s, z_bV_s, Int.cast_ofNat_Int, beq_self_eq_true, Bool.and_true, Bool.true_and, Bool.and_self, Bool.or_true, Bool.true_or, Bool.false_and, Bool.and_false, Bool.false_or, Bool.or_false, Bool.not_false, Bool.not_true, if_true, if_false, ite_true, ite_false, z_up_eq, z_up_app, z_ro_eq, c, w1]
    rw [e_De_spread_20]
    simp -implicitDefEqProofs (disch := first | assumption | omega | rfl | (simp only [z_up_eq, z_up_app, ↓reduceIte, Nat.reduceEqDiff]; omega)) only [z_lit0, z_lit1, z_lit2, z_litl, iI_add, iI_sub, iI_mul, iI_neg, iI_and, iI_or, iI_xor, iI_shl, iI_shr, iI_ushr, iI_div, iI_b, iI_c, iI_i2l, lI_l2i, lI_add, lI_sub, lI_mul, lI_neg, lI_div, lI_or, lI_and, lI_shl, lI_shr, nI_iI, lg_lt0, lg_gt0, lg_eq0, i_ne0', l_ne0', iI_lt, iI_le, iI_eq, lI_lt, lI_le, lI_eq, zb_0, zb_fit, zb_fit0, zb_fit1, i_one_zero, i_w_in, z_tb0, z_tb1, z_tb2, z_tb3, z_tb4, z_tb5, z_tb6, z_tb7, z_tb8, z_tbl, z_tu0, z_tu1, z_tu2, z_i_62, z_i_63, z_i_86, z_i_88, z_l_Y, z_ui_62, z_ui_63, z_ui_86, z_ui_88, z_ul_Y, z_sz_Y, z_sw_Y, iI_nat, z_ix_t, z_at, Int.add_zero, Int.sub_zero, Int.zero_add, Int.mul_zero, ne_eq, Bool.false_eq_true, Bool.true_eq_false, reduceCtorEq, eq_self, and_true, true_and, and_false, false_and, and_self, not_true_eq_false, not_false_eq_true, decide_true, decide_false, ↓reduceIte, Int.reduceEq, Int.reduceNe, Int.reduceLT, Int.reduceLE, Int.reduceAdd, Int.reduceSub, Int.reduceMul, Int.reduceNeg, Nat.reduceAdd, Nat.reduceEqDiff, Nat.reduceBEq, ↓z_x_eq, z_g_t, z_bI_s, z_bL_s, z_bR_s, z_bV_s, Int.cast_ofNat_Int, beq_self_eq_true, Bool.and_true, Bool.true_and, Bool.and_self, Bool.or_true, Bool.true_or, Bool.false_and, Bool.and_false, Bool.false_or, Bool.or_false, Bool.not_false, Bool.not_true, if_true, if_false, ite_true, ite_false, z_up_eq, z_up_app, z_ro_eq, c, w2]
    rw [e_De_spread_20]
    simp -implicitDefEqProofs (disch := first | assumption | omega | rfl | (simp only [z_up_eq, z_up_app, ↓reduceIte, Nat.reduceEqDiff]; omega)) only [z_lit0, z_lit1, z_lit2, z_litl, iI_add, iI_sub, iI_mul, iI_neg, iI_and, iI_or, iI_xor, iI_shl, iI_shr, iI_ushr, iI_div, iI_b, iI_c, iI_i2l, lI_l2i, lI_add, lI_sub, lI_mul, lI_neg, lI_div, lI_or, lI_and, lI_shl, lI_shr, nI_iI, lg_lt0, lg_gt0, lg_eq0, i_ne0', l_ne0', iI_lt, iI_le, iI_eq, lI_lt, lI_le, lI_eq, zb_0, zb_fit, zb_fit0, zb_fit1, i_one_zero, i_w_in, z_tb0, z_tb1, z_tb2, z_tb3, z_tb4, z_tb5, z_tb6, z_tb7, z_tb8, z_tbl, z_tu0, z_tu1, z_tu2, z_i_62, z_i_63, z_i_86, z_i_88, z_l_Y, z_ui_62, z_ui_63, z_ui_86, z_ui_88, z_ul_Y, z_sz_Y, z_sw_Y, iI_nat, z_ix_t, z_at, Int.add_zero, Int.sub_zero, Int.zero_add, Int.mul_zero, ne_eq, Bool.false_eq_true, Bool.true_eq_false, reduceCtorEq, eq_self, and_true, true_and, and_false, false_and, and_self, not_true_eq_false, not_false_eq_true, decide_true, decide_false, ↓reduceIte, Int.reduceEq, Int.reduceNe, Int.reduceLT, Int.reduceLE, Int.reduceAdd, Int.reduceSub, Int.reduceMul, Int.reduceNeg, Nat.reduceAdd, Nat.reduceEqDiff, Nat.reduceBEq, ↓z_x_eq, z_g_t, z_bI_s, z_bL_s, z_bR_s, z_bV_s, Int.cast_ofNat_Int, beq_self_eq_true, Bool.and_true, Bool.true_and, Bool.and_self, Bool.or_true, Bool.true_or, Bool.false_and, Bool.and_false, Bool.false_or, Bool.or_false, Bool.not_false, Bool.not_true, if_true, if_false, ite_true, ite_false, z_up_eq, z_up_app, z_ro_eq]
theorem p_mspr (d : Nat) (T : ZT) (G : ZG) (s : ZG × ZG) {p : Int} (hQ : m_q G) (hp : 0 ≤ p ∧ p < G 81 1) : ∃ s', z_call (d + 6) 170 [vr 80, vi (iI p)] (z_Y T G s) = some (vi (iI (m_spr (G 83) (G 81) p 11 - G 81 11)), z_Y T (z_up G 81 (m_spr (G 83) (G 81) p)) s') := by
  have m0 := hQ.1.1
  have m1 := hQ.1.2.1
  have m11 := hQ.1.2.2.2.2.2.2.2.2.2.2.2.1
  have mp := (mo_p hQ.1 p hp.1 hp.2).2.2.2.1
  have okc := m_cg_ok (p := p) hQ.1 ⟨hp.1, by omega⟩
  have fr1 := m_cg_fr (G 81) p m11.1
  have f1 := fr1 1 (by omega) (by omega) (by omega)
  have f3 := fr1 (32 + 5 * p + 3) (by omega) (by omega) (by omega)
  have f5 := fr1 5 (by omega) (by omega) (by omega)
  have kc := fun s => p_mcoughs (d + 3) T G s (p := p) hQ.1 ⟨by omega, by omega⟩
  have gt := fun s => p_get (d + 4) T (z_up G 81 (m_cg (G 81) p)) s (p := p) (w := 3) (by omega)
  rw [z_up_eq, f3] at gt
  by_cases c : G 81 (32 + 5 * p + 3) = -1
  · have ke : m_spr (G 83) (G 81) p = m_cg (G 81) p := if_pos c
    rw [ke]
    refine ⟨s, ?_⟩
    rw [e_M_coughNow]
    simp -implicitDefEqProofs (disch := first | assumption | omega | rfl | (simp only [z_up_eq, z_up_app, ↓reduceIte, Nat.reduceEqDiff]; omega)) only [z_lit0, z_lit1, z_lit2, z_litl, iI_add, iI_sub, iI_mul, iI_neg, iI_and, iI_or, iI_xor, iI_shl, iI_shr, iI_ushr, iI_div, iI_b, iI_c, iI_i2l, lI_l2i, lI_add, lI_sub, lI_mul, lI_neg, lI_div, lI_or, lI_and, lI_shl, lI_shr, nI_iI, lg_lt0, lg_gt0, lg_eq0, i_ne0', l_ne0', iI_lt, iI_le, iI_eq, lI_lt, lI_le, lI_eq, zb_0, zb_fit, zb_fit0, zb_fit1, i_one_zero, i_w_in, z_tb0, z_tb1, z_tb2, z_tb3, z_tb4, z_tb5, z_tb6, z_tb7, z_tb8, z_tbl, z_tu0, z_tu1, z_tu2, z_i_62, z_i_63, z_i_86, z_i_88, z_l_Y, z_ui_62, z_ui_63, z_ui_86, z_ui_88, z_ul_Y, z_sz_Y, z_sw_Y, iI_nat, z_ix_t, z_at, Int.add_zero, Int.sub_zero, Int.zero_add, Int.mul_zero, ne_eq, Bool.false_eq_true, Bool.true_eq_false, reduceCtorEq, eq_self, and_true, true_and, and_false, false_and, and_self, not_true_eq_false, not_false_eq_true, decide_true, decide_false, ↓reduceIte, Int.reduceEq, Int.reduceNe, Int.reduceLT, Int.reduceLE, Int.reduceAdd, Int.reduceSub, Int.reduceMul, Int.reduceNeg, Nat.reduceAdd, Nat.reduceEqDiff, Nat.reduceBEq, ↓z_x_eq, z_g_t, z_bI_s, z_bL_s, z_bR_s, z_bV_s, Int.cast_ofNat_Int, beq_self_eq_true, Bool.and_true, Bool.true_and, Bool.and_self, Bool.or_true, Bool.true_or, Bool.false_and, Bool.and_false, Bool.false_or, Bool.or_false, Bool.not_false, Bool.not_true, if_true, if_false, ite_true, ite_false, z_up_eq, z_up_app, z_ro_eq, kc]
    rw [e_M_coughNow_8]
    simp -implicitDefEqProofs (disch := first | assumption | omega | rfl | (simp only [z_up_eq, z_up_app, ↓reduceIte, Nat.reduceEqDiff]; omega)) only [z_lit0, z_lit1, z_lit2, z_litl, iI_add, iI_sub, iI_mul, iI_neg, iI_and, iI_or, iI_xor, iI_shl, iI_shr, iI_ushr, iI_div, iI_b, iI_c, iI_i2l, lI_l2i, lI_add, lI_sub, lI_mul, lI_neg, lI_div, lI_or, lI_and, lI_shl, lI_shr, nI_iI, lg_lt0, lg_gt0, lg_eq0, i_ne0', l_ne0', iI_lt, iI_le, iI_eq, lI_lt, lI_le, lI_eq, zb_0, zb_fit, zb_fit0, zb_fit1, i_one_zero, i_w_in, z_tb0, z_tb1, z_tb2, z_tb3, z_tb4, z_tb5, z_tb6, z_tb7, z_tb8, z_tbl, z_tu0, z_tu1, z_tu2, z_i_62, z_i_63, z_i_86, z_i_88, z_l_Y, z_ui_62, z_ui_63, z_ui_86, z_ui_88, z_ul_Y, z_sz_Y, z_sw_Y, iI_nat, z_ix_t, z_at, Int.add_zero, Int.sub_zero, Int.zero_add, Int.mul_zero, ne_eq, Bool.false_eq_true, Bool.true_eq_false, reduceCtorEq, eq_self, and_true, true_and, and_false, false_and, and_self, not_true_eq_false, not_false_eq_true, decide_true, decide_false, ↓reduceIte, Int.reduceEq, Int.reduceNe, Int.reduceLT, Int.reduceLE, Int.reduceAdd, Int.reduceSub, Int.reduceMul, Int.reduceNeg, Nat.reduceAdd, Nat.reduceEqDiff, Nat.reduceBEq, ↓z_x_eq, z_g_t, z_bI_s, z_bL_s, z_bR_s, z_bV_s, Int.cast_ofNat_Int, beq_self_eq_true, Bool.and_true, Bool.true_and, Bool.and_self, Bool.or_true, Bool.true_or, Bool.false_and, Bool.and_false, Bool.false_or, Bool.or_false, Bool.not_false, Bool.not_true, if_true, if_false, ite_true, ite_false, z_up_eq, z_up_app, z_ro_eq, gt, c]
  · have ke : m_spr (G 83) (G 81) p = m_wk (G 83) (-1) 10 p (m_wk (G 83) 1 10 p (m_cg (G 81) p)) := if_neg c
    rw [ke]
    have hQ1 : m_q (z_up G 81 (m_cg (G 81) p)) := by
      unfold m_q
      rw [z_up_eq, z_up_ne _ _ (show 83 ≠ 81 by omega), z_up_ne _ _ (show 80 ≠ 81 by omega), f5]
      exact ⟨okc, hQ.2⟩
    have so1 := fun s => p_sitterOf (d + 3) T (z_up G 81 (m_cg (G 81) p)) s (x := G 81 (32 + 5 * p + 3) + 1) ⟨by omega, by omega⟩ (by rw [z_up_eq]; exact okc)
    rw [z_up_eq] at so1
    have sin : ∀ (A : Int → Int) x, m_ok A → i_in (m_sit A x) := by
      intro A x hM
      rcases m_sit_or (x := x) hM with q | ⟨q1, q2, q3⟩
      · rw [q]; exact ⟨by omega, by omega⟩
      · have := hM.2.1; exact ⟨by omega, by omega⟩
    obtain ⟨s1, w1⟩ := p_mwk d T (w := 1) (p := p) (Or.inl rfl) ⟨by omega, by omega⟩ 10 p (m_sit (m_cg (G 81) p) (G 81 (32 + 5 * p + 3) + 1)) (m_cg (G 81) p 11 - G 81 11) (z_up G 81 (m_cg (G 81) p)) s hQ1 (by rw [z_up_eq, f1]; exact hp) (by rw [z_up_eq, f3]; exact c) (fun _ => by rw [z_up_eq, f3]; omega) (fun h => by omega) (sin _ _ okc) (fun h => by rw [z_up_eq, f3])
    rw [z_up_eq, z_up_up, z_up_ne _ _ (show 83 ≠ 81 by omega)] at w1
    have fr2 := m_fr_tr fr1 (m_wk_fr (G 83) 1 10 p _ okc (by rw [f1]; exact hp))
    have okw : m_ok (m_wk (G 83) 1 10 p (m_cg (G 81) p)) := m_wk_ok (G 83) 1 10 p _ okc (by rw [f1]; exact hp)
    have f1' := fr2 1 (by omega) (by omega) (by omega)
    have f3' := fr2 (32 + 5 * p + 3) (by omega) (by omega) (by omega)
    have f5' := fr2 5 (by omega) (by omega) (by omega)
    generalize m_wk (G 83) 1 10 p (m_cg (G 81) p) = A2 at *
    have hQ2 : m_q (z_up G 81 A2) := by
      unfold m_q
      rw [z_up_eq, z_up_ne _ _ (show 83 ≠ 81 by omega), z_up_ne _ _ (show 80 ≠ 81 by omega), f5']
      exact ⟨okw, hQ.2⟩
    have gt2 := fun s => p_get (d + 4) T (z_up G 81 A2) s (p := p) (w := 3) (by omega)
    rw [z_up_eq, f3'] at gt2
    have so2 := fun s => p_sitterOf (d + 3) T (z_up G 81 A2) s (x := G 81 (32 + 5 * p + 3) + -1) ⟨by omega, by omega⟩ (by rw [z_up_eq]; exact okw)
    rw [z_up_eq] at so2
    have cc : m_cg (G 81) p 11 - G 81 11 + (A2 11 - m_cg (G 81) p 11) = A2 11 - G 81 11 := by omega
    rw [cc] at w1
    obtain ⟨s2, w2⟩ := p_mwk d T (w := -1) (p := p) (Or.inr rfl) ⟨by omega, by omega⟩ 10 p (m_sit A2 (G 81 (32 + 5 * p + 3) + -1)) (A2 11 - G 81 11) (z_up G 81 A2) s1 hQ2 (by rw [z_up_eq, f1']; exact hp) (by rw [z_up_eq, f3']; exact c) (fun h => by omega) (fun _ => by rw [z_up_eq, f3']; omega) (sin _ _ okw) (fun h => by rw [z_up_eq, f3'])
    rw [z_up_eq, z_up_up, z_up_ne _ _ (show 83 ≠ 81 by omega)] at w2
    have cc2 : A2 11 - G 81 11 + (m_wk (G 83) (-1) 10 p A2 11 - A2 11) = m_wk (G 83) (-1) 10 p A2 11 - G 81 11 := by omega
    rw [cc2] at w2
    refine ⟨s2, ?_⟩
    rw [e_M_coughNow]
    simp -implicitDefEqProofs (disch := first | assumption | omega | rfl | (simp only [z_up_eq, z_up_app, ↓reduceIte, Nat.reduceEqDiff]; omega)) only [z_lit0, z_lit1, z_lit2, z_litl, iI_add, iI_sub, iI_mul, iI_neg, iI_and, iI_or, iI_xor, iI_shl, iI_shr, iI_ushr, iI_div, iI_b, iI_c, iI_i2l, lI_l2i, lI_add, lI_sub, lI_mul, lI_neg, lI_div, lI_or, lI_and, lI_shl, lI_shr, nI_iI, lg_lt0, lg_gt0, lg_eq0, i_ne0', l_ne0', iI_lt, iI_le, iI_eq, lI_lt, lI_le, lI_eq, zb_0, zb_fit, zb_fit0, zb_fit1, i_one_zero, i_w_in, z_tb0, z_tb1, z_tb2, z_tb3, z_tb4, z_tb5, z_tb6, z_tb7, z_tb8, z_tbl, z_tu0, z_tu1, z_tu2, z_i_62, z_i_63, z_i_86, z_i_88, z_l_Y, z_ui_62, z_ui_63, z_ui_86, z_ui_88, z_ul_Y, z_sz_Y, z_sw_Y, iI_nat, z_ix_t, z_at, Int.add_zero, Int.sub_zero, Int.zero_add, Int.mul_zero, ne_eq, Bool.false_eq_true, Bool.true_eq_false, reduceCtorEq, eq_self, and_true, true_and, and_false, false_and, and_self, not_true_eq_false, not_false_eq_true, decide_true, decide_false, ↓reduceIte, Int.reduceEq, Int.reduceNe, Int.reduceLT, Int.reduceLE, Int.reduceAdd, Int.reduceSub, Int.reduceMul, Int.reduceNeg, Nat.reduceAdd, Nat.reduceEqDiff, Nat.reduceBEq, ↓z_x_eq, z_g_t, z_bI_s, z_bL_s, z_bR_s, z_bV_s, Int.cast_ofNat_Int, beq_self_eq_true, Bool.and_true, Bool.true_and, Bool.and_self, Bool.or_true, Bool.true_or, Bool.false_and, Bool.and_false, Bool.false_or, Bool.or_false, Bool.not_false, Bool.not_true, if_true, if_false, ite_true, ite_false, z_up_eq, z_up_app, z_ro_eq, kc]
    rw [e_M_coughNow_8]
    simp -implicitDefEqProofs (disch := first | assumption | omega | rfl | (simp only [z_up_eq, z_up_app, ↓reduceIte, Nat.reduceEqDiff]; omega)) only [z_lit0, z_lit1, z_lit2, z_litl, iI_add, iI_sub, iI_mul, iI_neg, iI_and, iI_or, iI_xor, iI_shl, iI_shr, iI_ushr, iI_div, iI_b, iI_c, iI_i2l, lI_l2i, lI_add, lI_sub, lI_mul, lI_neg, lI_div, lI_or, lI_and, lI_shl, lI_shr, nI_iI, lg_lt0, lg_gt0, lg_eq0, i_ne0', l_ne0', iI_lt, iI_le, iI_eq, lI_lt, lI_le, lI_eq, zb_0, zb_fit, zb_fit0, zb_fit1, i_one_zero, i_w_in, z_tb0, z_tb1, z_tb2, z_tb3, z_tb4, z_tb5, z_tb6, z_tb7, z_tb8, z_tbl, z_tu0, z_tu1, z_tu2, z_i_62, z_i_63, z_i_86, z_i_88, z_l_Y, z_ui_62, z_ui_63, z_ui_86, z_ui_88, z_ul_Y, z_sz_Y, z_sw_Y, iI_nat, z_ix_t, z_at, Int.add_zero, Int.sub_zero, Int.zero_add, Int.mul_zero, ne_eq, Bool.false_eq_true, Bool.true_eq_false, reduceCtorEq, eq_self, and_true, true_and, and_false, false_and, and_self, not_true_eq_false, not_false_eq_true, decide_true, decide_false, ↓reduceIte, Int.reduceEq, Int.reduceNe, Int.reduceLT, Int.reduceLE, Int.reduceAdd, Int.reduceSub, Int.reduceMul, Int.reduceNeg, Nat.reduceAdd, Nat.reduceEqDiff, Nat.reduceBEq, ↓z_x_eq, z_g_t, z_bI_s, z_bL_s, z_bR_s, z_bV_s, Int.cast_ofNat_Int, beq_self_eq_true, Bool.and_true, Bool.true_and, Bool.and_self, Bool.or_true, Bool.true_or, Bool.false_and, Bool.and_false, Bool.false_or, Bool.or_false, Bool.not_false, Bool.not_true, if_true, if_false, ite_true, ite_false, z_up_eq, z_up_app, z_ro_eq, gt, c, so1, w1]
    rw [e_M_coughNow_8]
    simp -implicitDefEqProofs (disch := first | assumption | omega | rfl | (simp only [z_up_eq, z_up_app, ↓reduceIte, Nat.reduceEqDiff]; omega)) only [z_lit0, z_lit1, z_lit2, z_litl, iI_add, iI_sub, iI_mul, iI_neg, iI_and, iI_or, iI_xor, iI_shl, iI_shr, iI_ushr, iI_div, iI_b, iI_c, iI_i2l, lI_l2i, lI_add, lI_sub, lI_mul, lI_neg, lI_div, lI_or, lI_and, lI_shl, lI_shr, nI_iI, lg_lt0, lg_gt0, lg_eq0, i_ne0', l_ne0', iI_lt, iI_le, iI_eq, lI_lt, lI_le, lI_eq, zb_0, zb_fit, zb_fit0, zb_fit1, i_one_zero, i_w_in, z_tb0, z_tb1, z_tb2, z_tb3, z_tb4, z_tb5, z_tb6, z_tb7, z_tb8, z_tbl, z_tu0, z_tu1, z_tu2, z_i_62, z_i_63, z_i_86, z_i_88, z_l_Y, z_ui_62, z_ui_63, z_ui_86, z_ui_88, z_ul_Y, z_sz_Y, z_sw_Y, iI_nat, z_ix_t, z_at, Int.add_zero, Int.sub_zero, Int.zero_add, Int.mul_zero, ne_eq, Bool.false_eq_true, Bool.true_eq_false, reduceCtorEq, eq_self, and_true, true_and, and_false, false_and, and_self, not_true_eq_false, not_false_eq_true, decide_true, decide_false, ↓reduceIte, Int.reduceEq, Int.reduceNe, Int.reduceLT, Int.reduceLE, Int.reduceAdd, Int.reduceSub, Int.reduceMul, Int.reduceNeg, Nat.reduceAdd, Nat.reduceEqDiff, Nat.reduceBEq, ↓z_x_eq, z_g_t, z_bI_s, z_bL_s, z_bR_s, z_bV_s, Int.cast_ofNat_Int, beq_self_eq_true, Bool.and_true, Bool.true_and, Bool.and_self, Bool.or_true, Bool.true_or, Bool.false_and, Bool.and_false, Bool.false_or, Bool.or_false, Bool.not_false, Bool.not_true, if_true, if_false, ite_true, ite_false, z_up_eq, z_up_app, z_ro_eq, gt2, c, so2, w2]
    rw [e_M_coughNow_8]
    simp -implicitDefEqProofs (disch := first | assumption | omega | rfl | (simp only [z_up_eq, z_up_app, ↓reduceIte, Nat.reduceEqDiff]; omega)) only [z_lit0, z_lit1, z_lit2, z_litl, iI_add, iI_sub, iI_mul, iI_neg, iI_and, iI_or, iI_xor, iI_shl, iI_shr, iI_ushr, iI_div, iI_b, iI_c, iI_i2l, lI_l2i, lI_add, lI_sub, lI_mul, lI_neg, lI_div, lI_or, lI_and, lI_shl, lI_shr, nI_iI, lg_lt0, lg_gt0, lg_eq0, i_ne0', l_ne0', iI_lt, iI_le, iI_eq, lI_lt, lI_le, lI_eq, zb_0, zb_fit, zb_fit0, zb_fit1, i_one_zero, i_w_in, z_tb0, z_tb1, z_tb2, z_tb3, z_tb4, z_tb5, z_tb6, z_tb7, z_tb8, z_tbl, z_tu0, z_tu1, z_tu2, z_i_62, z_i_63, z_i_86, z_i_88, z_l_Y, z_ui_62, z_ui_63, z_ui_86, z_ui_88, z_ul_Y, z_sz_Y, z_sw_Y, iI_nat, z_ix_t, z_at, Int.add_zero, Int.sub_zero, Int.zero_add, Int.mul_zero, ne_eq, Bool.false_eq_true, Bool.true_eq_false, reduceCtorEq, eq_self, and_true, true_and, and_false, false_and, and_self, not_true_eq_false, not_false_eq_true, decide_true, decide_false, ↓reduceIte, Int.reduceEq, Int.reduceNe, Int.reduceLT, Int.reduceLE, Int.reduceAdd, Int.reduceSub, Int.reduceMul, Int.reduceNeg, Nat.reduceAdd, Nat.reduceEqDiff, Nat.reduceBEq, ↓z_x_eq, z_g_t, z_bI_s, z_bL_s, z_bR_s, z_bV_s, Int.cast_ofNat_Int, beq_self_eq_true, Bool.and_true, Bool.true_and, Bool.and_self, Bool.or_true, Bool.true_or, Bool.false_and, Bool.and_false, Bool.false_or, Bool.or_false, Bool.not_false, Bool.not_true, if_true, if_false, ite_true, ite_false, z_up_eq, z_up_app, z_ro_eq]
/-- a deed that answers a number, -1 if it can't be -/
def z_dn (T : ZT) (G : ZG) (f g : ZM → ZR) : Prop := ∃ (z : Int) (G' : ZG), (-1 ≤ z ∧ z < 2147483648) ∧ (∀ s, z_ok (f (z_Y T G s)) (z_q T G' (vi (iI z)))) ∧ (∀ r, ¬ (11 ≤ r ∧ r ≤ 32) → G' r = G r) ∧ ∀ A Gm s, c_nw A G → Gm 81 = A → m_q Gm → Gm 83 = G 83 → z_ok (g (z_Y T Gm s)) (fun y τ => y = vi (iI z) ∧ ∃ A' s', τ = z_Y T (z_up Gm 81 A') s' ∧ c_nw A' G' ∧ A' 5 = A 5)
theorem dn_dd {T : ZT} {G : ZG} {f g : ZM → ZR} (h : z_dn T G f g) : z_dd False T G f g := by
  obtain ⟨z, G', -, h⟩ := h
  exact ⟨iI z, G', fun x => x.elim, h⟩
theorem dd_dn {k : Prop} {T : ZT} {G : ZG} {f g : ZM → ZR} (h : z_dd k T G f g) (hr : ∃ s z τ, f (z_Y T G s) = some (vi (iI z), τ) ∧ -1 ≤ z ∧ z < 2147483648) : z_dn T G f g := by
  obtain ⟨v, G', -, hf, h⟩ := h
  obtain ⟨s, z, τ, e, b⟩ := hr
  obtain ⟨v', τ', e', rfl, s', -⟩ := hf s
  rw [e] at e'
  have : iI z = v := by
    injection e' with e'
    injection e' with e1 e2
    injection e1
  subst this
  exact ⟨z, G', b, hf, h⟩
theorem d_cough (d : Nat) {T : ZT} {G : ZG} (hE : ∃ A, c_nw A G ∧ t_okA T A G) {p : Int} (hp : i_in p) : z_dn T G (fun σ => z_call (d + 6) 153 [vr 65, vi (iI p)] σ) (fun σ => z_call (d + 8) 171 [vr 80, vi (iI p)] σ) := by
  obtain ⟨A0, hC0, hT0⟩ := hE
  have q0 := (dw_h hC0).2.1
  have m10 := hC0.1.2.1
  have m30 := hC0.1.2.2.2.1
  have dm0 := dw_m hC0
  have pc := fun s => p_cghK (d + 4) T G s (p := p) (b := G 20 3) ⟨hp, ⟨by omega, by omega⟩⟩ hC0
  by_cases c1 : (0 ≤ p ∧ p ≤ G 11 3 - 1) ∧ k_cgh G p (G 20 3) = false
  · obtain ⟨c1, c2⟩ := c1
    rw [c2] at pc
    obtain ⟨W, ek, hW⟩ := p_ckeepA (d + 2) T G (dw_b7 hC0).1 (dw_b7 hC0).2
    -- some model row beside the kept one
    have hE1 : ∃ A1, c_nw A1 (z_up (z_up G 25 (z_ro (z_ro (G 25) 1 ((G 25 1 + 1) % 30)) 2 (if G 25 2 < 30 then G 25 2 + 1 else G 25 2))) 26 W) ∧ A1 1 = A0 1 ∧ A1 5 = A0 5 := by
      obtain ⟨B, R, em, k1, k2⟩ := p_mkeep 0 T (z_up G 81 A0) (fun _ _ => 0, fun _ _ => 0) (by rw [z_up_eq]; exact hC0.1.2.2.2.2.2.2.2.1)
      rw [z_up_eq] at k2
      have hK := K_keep hC0 hW k1 k2
      refine ⟨_, hK, ?_, ?_⟩
      · have := (dw_h hK).2.1
        rw [z_up_ne _ _ (by omega), z_up_ne _ _ (by omega)] at this
        rw [← this]; exact q0
      · have := (dw_h hK).2.2.2.1
        rw [z_up_ne _ _ (by omega), z_up_ne _ _ (by omega)] at this
        rw [← this]; exact (dw_h hC0).2.2.2.1
    obtain ⟨A1, hC1, hA1, hA5⟩ := hE1
    have gne : ∀ r, r ≠ 25 → r ≠ 26 → z_up (z_up G 25 (z_ro (z_ro (G 25) 1 ((G 25 1 + 1) % 30)) 2 (if G 25 2 < 30 then G 25 2 + 1 else G 25 2))) 26 W r = G r := fun r a b => by rw [z_up_ne _ _ b, z_up_ne _ _ a]
    have hKK := fun {A B R : Int → Int} (h1 : c_nw A G) (h2 : k_md B R (186 + 65 * B 7)) (h3 : (B = A ∧ A 7 < 30) ∨ (k_sh A B ∧ A 7 = 30)) => K_keep h1 hW h2 h3
    generalize z_up (z_up G 25 (z_ro (z_ro (G 25) 1 ((G 25 1 + 1) % 30)) 2 (if G 25 2 < 30 then G 25 2 + 1 else G 25 2))) 26 W = G1 at *
    have hT1 : t_okA T A1 G1 := t_okA_fr hT0 hA5 (gne 83 (by omega) (by omega)) (fun r a => gne r (by omega) (by omega))
    have sp := fun s => p_spread d T G1 s hC1 hT1 (p := p) (by omega)
    have g20 : G1 20 = G 20 := gne 20 (by omega) (by omega)
    have kf := k_spr_fr G1 p
    have hC2 := (C_spr hC1 (p := p) (by omega)).1
    have e11 := (dw_m hC2).2.2.2
    have m11 := hC2.1.2.2.2.2.2.2.2.2.2.2.2.1
    have m11' := hC0.1.2.2.2.2.2.2.2.2.2.2.2.1
    have mono : G 20 5 ≤ k_spr G1 p 20 5 := by
      have h1 := k_spr_mono G1 p
      rw [g20] at h1; exact h1
    refine ⟨k_spr G1 p 20 5 - G 20 5, k_spr G1 p, by omega, fun s => ?_, fun r a => ?_, ?_⟩
    · obtain ⟨s', es⟩ := sp s
      dsimp only
      rw [e_De_coughsNow]
      simp -implicitDefEqProofs (disch := first | assumption | omega | rfl | (simp only [z_up_eq, z_up_app, ↓reduceIte, Nat.reduceEqDiff]; omega)) only [z_lit0, z_lit1, z_lit2, z_litl, iI_add, iI_sub, iI_mul, iI_neg, iI_and, iI_or, iI_xor, iI_shl, iI_shr, iI_ushr, iI_div, iI_b, iI_c, iI_i2l, lI_l2i, lI_add, lI_sub, lI_mul, lI_neg, lI_div, lI_or, lI_and, lI_shl, lI_shr, nI_iI, lg_lt0, lg_gt0, lg_eq0, i_ne0', l_ne0', iI_lt, iI_le, iI_eq, lI_lt, lI_le, lI_eq, zb_0, zb_fit, zb_fit0, zb_fit1, i_one_zero, i_w_in, z_tb0, z_tb1, z_tb2, z_tb3, z_tb4, z_tb5, z_tb6, z_tb7, z_tb8, z_tbl, z_tu0, z_tu1, z_tu2, z_i_62, z_i_63, z_i_86, z_i_88, z_l_Y, z_ui_62, z_ui_63, z_ui_86, z_ui_88, z_ul_Y, z_sz_Y, z_sw_Y, iI_nat, z_ix_t, z_at, Int.add_zero, Int.sub_zero, Int.zero_add, Int.mul_zero, ne_eq, Bool.false_eq_true, Bool.true_eq_false, reduceCtorEq, eq_self, and_true, true_and, and_false, false_and, and_self, not_true_eq_false, not_false_eq_true, decide_true, decide_false, ↓reduceIte, Int.reduceEq, Int.reduceNe, Int.reduceLT, Int.reduceLE, Int.reduceAdd, Int.reduceSub, Int.reduceMul, Int.reduceNeg, Nat.reduceAdd, Nat.reduceEqDiff, Nat.reduceBEq, ↓z_x_eq, z_g_t, z_bI_s, z_bL_s, z_bR_s, z_bV_s, Int.cast_ofNat_Int, beq_self_eq_true, Bool.and_true, Bool.true_and, Bool.and_self, Bool.or_true, Bool.true_or, Bool.false_and, Bool.and_false, Bool.false_or, Bool.or_false, Bool.not_false, Bool.not_true, if_true, if_false, ite_true, ite_false, z_up_eq, z_up_app, z_ro_eq, p_hasPerson, c1, zb_t, pc, zb_f, ek, es, g20]
      exact ok_q
    · rw [kf.1 r (by omega) (by omega) (by omega), gne r (by omega) (by omega)]
    · intro A Gm s hC e hq e83
      have q := (dw_h hC).2.1
      have m1 := hC.1.2.1
      have m3 := hC.1.2.2.2.1
      have m7 := hC.1.2.2.2.2.2.2.2.1
      have dm := dw_m hC
      rw [q] at c1
      have hp' : 0 ≤ p ∧ p < A 1 := ⟨c1.1, by omega⟩
      have ec := k_cgh_eq hC p (A 3)
      rw [dm.2.1, ec] at c2
      obtain ⟨B, R, em, k1, k2⟩ := p_mkeep (d + 5) T Gm s (by rw [e]; exact m7)
      rw [e] at k2
      have hK := hKK hC k1 k2
      have a1 : z_ro R 7 (B 7 + 1) 1 = A 1 := by
        have := (dw_h hK).2.1
        rw [gne 11 (by omega) (by omega)] at this
        rw [← this]; exact q
      have a5 : z_ro R 7 (B 7 + 1) 5 = A 5 := by
        have := (dw_h hK).2.2.2.1
        rw [gne 11 (by omega) (by omega)] at this
        rw [← this]; exact (dw_h hC).2.2.2.1
      have a11 : z_ro R 7 (B 7 + 1) 11 = A 11 := by
        have := (dw_m hK).2.2.2
        rw [g20] at this
        rw [← this]; exact dm.2.2.2
      generalize z_ro R 7 (B 7 + 1) = A2 at *
      have hQ2 : m_q (z_up Gm 81 A2) := by
        unfold m_q
        rw [z_up_eq, z_up_ne _ _ (show 83 ≠ 81 by omega), z_up_ne _ _ (show 80 ≠ 81 by omega), a5]
        exact ⟨hK.1, by have := hq.2; rw [e] at this; exact this⟩
      obtain ⟨s2, e2⟩ := p_mspr (d + 1) T (z_up Gm 81 A2) s (p := p) hQ2 (by rw [z_up_eq, a1]; exact hp')
      rw [z_up_eq, z_up_up, z_up_ne _ _ (show 83 ≠ 81 by omega), e83] at e2
      obtain ⟨hS, hF⟩ := C_spr hK (p := p) (by rw [a1]; exact hp')
      rw [gne 83 (by omega) (by omega)] at hS hF
      have b11 := (dw_m hS).2.2.2
      have pi := p_isPerson (d + 5) T Gm s (x := p) ⟨hp, by rw [e]; exact m1⟩
      rw [e] at pi
      have pm := p_mcgh (d + 6) T Gm s (p := p) (b := A 3) ⟨hp, ⟨by omega, by omega⟩⟩ hq.1
      rw [e, c2] at pm
      dsimp only
      rw [e_M_cough]
      simp -implicitDefEqProofs (disch := first | assumption | omega | rfl | (simp only [z_up_eq, z_up_app, ↓reduceIte, Nat.reduceEqDiff]; omega)) only [z_lit0, z_lit1, z_lit2, z_litl, iI_add, iI_sub, iI_mul, iI_neg, iI_and, iI_or, iI_xor, iI_shl, iI_shr, iI_ushr, iI_div, iI_b, iI_c, iI_i2l, lI_l2i, lI_add, lI_sub, lI_mul, lI_neg, lI_div, lI_or, lI_and, lI_shl, lI_shr, nI_iI, lg_lt0, lg_gt0, lg_eq0, i_ne0', l_ne0', iI_lt, iI_le, iI_eq, lI_lt, lI_le, lI_eq, zb_0, zb_fit, zb_fit0, zb_fit1, i_one_zero, i_w_in, z_tb0, z_tb1, z_tb2, z_tb3, z_tb4, z_tb5, z_tb6, z_tb7, z_tb8, z_tbl, z_tu0, z_tu1, z_tu2, z_i_62, z_i_63, z_i_86, z_i_88, z_l_Y, z_ui_62, z_ui_63, z_ui_86, z_ui_88, z_ul_Y, z_sz_Y, z_sw_Y, iI_nat, z_ix_t, z_at, Int.add_zero, Int.sub_zero, Int.zero_add, Int.mul_zero, ne_eq, Bool.false_eq_true, Bool.true_eq_false, reduceCtorEq, eq_self, and_true, true_and, and_false, false_and, and_self, not_true_eq_false, not_false_eq_true, decide_true, decide_false, ↓reduceIte, Int.reduceEq, Int.reduceNe, Int.reduceLT, Int.reduceLE, Int.reduceAdd, Int.reduceSub, Int.reduceMul, Int.reduceNeg, Nat.reduceAdd, Nat.reduceEqDiff, Nat.reduceBEq, ↓z_x_eq, z_g_t, z_bI_s, z_bL_s, z_bR_s, z_bV_s, Int.cast_ofNat_Int, beq_self_eq_true, Bool.and_true, Bool.true_and, Bool.and_self, Bool.or_true, Bool.true_or, Bool.false_and, Bool.and_false, Bool.false_or, Bool.or_false, Bool.not_false, Bool.not_true, if_true, if_false, ite_true, ite_false, z_up_eq, z_up_app, z_ro_eq, pi, c1, zb_t, e, pm, zb_f, em, e2]
      refine ok_ret ⟨?_, _, s2, rfl, hS, ?_⟩
      · rw [b11, a11, dm.2.2.2]
      · rw [hF 5 (by omega) (by omega) (by omega), a5]
  · refine ⟨-1, G, by omega, fun s => ?_, fun _ _ => rfl, ?_⟩
    · dsimp only
      rw [e_De_coughsNow]
      by_cases d1 : 0 ≤ p ∧ p ≤ G 11 3 - 1
      · have d2 : k_cgh G p (G 20 3) = true := by
          cases h : k_cgh G p (G 20 3)
          · exact absurd ⟨d1, h⟩ c1
          · rfl
        rw [d2] at pc
        simp -implicitDefEqProofs (disch := first | assumption | omega | rfl | (simp only [z_up_eq, z_up_app, ↓reduceIte, Nat.reduceEqDiff]; omega)) only [z_lit0, z_lit1, z_lit2, z_litl, iI_add, iI_sub, iI_mul, iI_neg, iI_and, iI_or, iI_xor, iI_shl, iI_shr, iI_ushr, iI_div, iI_b, iI_c, iI_i2l, lI_l2i, lI_add, lI_sub, lI_mul, lI_neg, lI_div, lI_or, lI_and, lI_shl, lI_shr, nI_iI, lg_lt0, lg_gt0, lg_eq0, i_ne0', l_ne0', iI_lt, iI_le, iI_eq, lI_lt, lI_le, lI_eq, zb_0, zb_fit, zb_fit0, zb_fit1, i_one_zero, i_w_in, z_tb0, z_tb1, z_tb2, z_tb3, z_tb4, z_tb5, z_tb6, z_tb7, z_tb8, z_tbl, z_tu0, z_tu1, z_tu2, z_i_62, z_i_63, z_i_86, z_i_88, z_l_Y, z_ui_62, z_ui_63, z_ui_86, z_ui_88, z_ul_Y, z_sz_Y, z_sw_Y, iI_nat, z_ix_t, z_at, Int.add_zero, Int.sub_zero, Int.zero_add, Int.mul_zero, ne_eq, Bool.false_eq_true, Bool.true_eq_false, reduceCtorEq, eq_self, and_true, true_and, and_false, false_and, and_self, not_true_eq_false, not_false_eq_true, decide_true, decide_false, ↓reduceIte, Int.reduceEq, Int.reduceNe, Int.reduceLT, Int.reduceLE, Int.reduceAdd, Int.reduceSub, Int.reduceMul, Int.reduceNeg, Nat.reduceAdd, Nat.reduceEqDiff, Nat.reduceBEq, ↓z_x_eq, z_g_t, z_bI_s, z_bL_s, z_bR_s, z_bV_s, Int.cast_ofNat_Int, beq_self_eq_true, Bool.and_true, Bool.true_and, Bool.and_self, Bool.or_true, Bool.true_or, Bool.false_and, Bool.and_false, Bool.false_or, Bool.or_false, Bool.not_false, Bool.not_true, if_true, if_false, ite_true, ite_false, z_up_eq, z_up_app, z_ro_eq, p_hasPerson, d1, zb_t, pc]
        exact ok_q
      · simp -implicitDefEqProofs (disch := first | assumption | omega | rfl | (simp only [z_up_eq, z_up_app, ↓reduceIte, Nat.reduceEqDiff]; omega)) only [z_lit0, z_lit1, z_lit2, z_litl, iI_add, iI_sub, iI_mul, iI_neg, iI_and, iI_or, iI_xor, iI_shl, iI_shr, iI_ushr, iI_div, iI_b, iI_c, iI_i2l, lI_l2i, lI_add, lI_sub, lI_mul, lI_neg, lI_div, lI_or, lI_and, lI_shl, lI_shr, nI_iI, lg_lt0, lg_gt0, lg_eq0, i_ne0', l_ne0', iI_lt, iI_le, iI_eq, lI_lt, lI_le, lI_eq, zb_0, zb_fit, zb_fit0, zb_fit1, i_one_zero, i_w_in, z_tb0, z_tb1, z_tb2, z_tb3, z_tb4, z_tb5, z_tb6, z_tb7, z_tb8, z_tbl, z_tu0, z_tu1, z_tu2, z_i_62, z_i_63, z_i_86, z_i_88, z_l_Y, z_ui_62, z_ui_63, z_ui_86, z_ui_88, z_ul_Y, z_sz_Y, z_sw_Y, iI_nat, z_ix_t, z_at, Int.add_zero, Int.sub_zero, Int.zero_add, Int.mul_zero, ne_eq, Bool.false_eq_true, Bool.true_eq_false, reduceCtorEq, eq_self, and_true, true_and, and_false, false_and, and_self, not_true_eq_false, not_false_eq_true, decide_true, decide_false, ↓reduceIte, Int.reduceEq, Int.reduceNe, Int.reduceLT, Int.reduceLE, Int.reduceAdd, Int.reduceSub, Int.reduceMul, Int.reduceNeg, Nat.reduceAdd, Nat.reduceEqDiff, Nat.reduceBEq, ↓z_x_eq, z_g_t, z_bI_s, z_bL_s, z_bR_s, z_bV_s, Int.cast_ofNat_Int, beq_self_eq_true, Bool.and_true, Bool.true_and, Bool.and_self, Bool.or_true, Bool.true_or, Bool.false_and, Bool.and_false, Bool.false_or, Bool.or_false, Bool.not_false, Bool.not_true, if_true, if_false, ite_true, ite_false, z_up_eq, z_up_app, z_ro_eq, p_hasPerson, d1, zb_f]
        exact ok_q
    · intro A Gm s hC e hq e83
      have q := (dw_h hC).2.1
      have m1 := hC.1.2.1
      have m3 := hC.1.2.2.2.1
      have dm := dw_m hC
      rw [q, dm.2.1, k_cgh_eq hC p (A 3)] at c1
      have pi := p_isPerson (d + 5) T Gm s (x := p) ⟨hp, by rw [e]; exact m1⟩
      rw [e] at pi
      have pm := p_mcgh (d + 6) T Gm s (p := p) (b := A 3) ⟨hp, ⟨by omega, by omega⟩⟩ hq.1
      rw [e] at pm
      have fin : ∀ x : ZR, x = some (vi (iI (-1)), z_Y T Gm s) → z_ok x (fun y τ => y = vi (iI (-1)) ∧ ∃ A' s', τ = z_Y T (z_up Gm 81 A') s' ∧ c_nw A' G ∧ A' 5 = A 5) := fun x hx => by
        rw [hx]; exact ok_ret ⟨rfl, A, s, by rw [z_up_self e.symm], hC, rfl⟩
      refine fin _ ?_
      dsimp only
      rw [e_M_cough]
      by_cases d1 : 0 ≤ p ∧ p ≤ A 1 - 1
      · have d2 : m_cgh A p (A 3) = true := by
          cases h : m_cgh A p (A 3)
          · exact absurd ⟨d1, h⟩ c1
          · rfl
        rw [d2] at pm
        simp -implicitDefEqProofs (disch := first | assumption | omega | rfl | (simp only [z_up_eq, z_up_app, ↓reduceIte, Nat.reduceEqDiff]; omega)) only [z_lit0, z_lit1, z_lit2, z_litl, iI_add, iI_sub, iI_mul, iI_neg, iI_and, iI_or, iI_xor, iI_shl, iI_shr, iI_ushr, iI_div, iI_b, iI_c, iI_i2l, lI_l2i, lI_add, lI_sub, lI_mul, lI_neg, lI_div, lI_or, lI_and, lI_shl, lI_shr, nI_iI, lg_lt0, lg_gt0, lg_eq0, i_ne0', l_ne0', iI_lt, iI_le, iI_eq, lI_lt, lI_le, lI_eq, zb_0, zb_fit, zb_fit0, zb_fit1, i_one_zero, i_w_in, z_tb0, z_tb1, z_tb2, z_tb3, z_tb4, z_tb5, z_tb6, z_tb7, z_tb8, z_tbl, z_tu0, z_tu1, z_tu2, z_i_62, z_i_63, z_i_86, z_i_88, z_l_Y, z_ui_62, z_ui_63, z_ui_86, z_ui_88, z_ul_Y, z_sz_Y, z_sw_Y, iI_nat, z_ix_t, z_at, Int.add_zero, Int.sub_zero, Int.zero_add, Int.mul_zero, ne_eq, Bool.false_eq_true, Bool.true_eq_false, reduceCtorEq, eq_self, and_true, true_and, and_false, false_and, and_self, not_true_eq_false, not_false_eq_true, decide_true, decide_false, ↓reduceIte, Int.reduceEq, Int.reduceNe, Int.reduceLT, Int.reduceLE, Int.reduceAdd, Int.reduceSub, Int.reduceMul, Int.reduceNeg, Nat.reduceAdd, Nat.reduceEqDiff, Nat.reduceBEq, ↓z_x_eq, z_g_t, z_bI_s, z_bL_s, z_bR_s, z_bV_s, Int.cast_ofNat_Int, beq_self_eq_true, Bool.and_true, Bool.true_and, Bool.and_self, Bool.or_true, Bool.true_or, Bool.false_and, Bool.and_false, Bool.false_or, Bool.or_false, Bool.not_false, Bool.not_true, if_true, if_false, ite_true, ite_false, z_up_eq, z_up_app, z_ro_eq, pi, d1, zb_t, e, pm]
      · simp -implicitDefEqProofs (disch := first | assumption | omega | rfl | (simp only [z_up_eq, z_up_app, ↓reduceIte, Nat.reduceEqDiff]; omega)) only [z_lit0, z_lit1, z_lit2, z_litl, iI_add, iI_sub, iI_mul, iI_neg, iI_and, iI_or, iI_xor, iI_shl, iI_shr, iI_ushr, iI_div, iI_b, iI_c, iI_i2l, lI_l2i, lI_add, lI_sub, lI_mul, lI_neg, lI_div, lI_or, lI_and, lI_shl, lI_shr, nI_iI, lg_lt0, lg_gt0, lg_eq0, i_ne0', l_ne0', iI_lt, iI_le, iI_eq, lI_lt, lI_le, lI_eq, zb_0, zb_fit, zb_fit0, zb_fit1, i_one_zero, i_w_in, z_tb0, z_tb1, z_tb2, z_tb3, z_tb4, z_tb5, z_tb6, z_tb7, z_tb8, z_tbl, z_tu0, z_tu1, z_tu2, z_i_62, z_i_63, z_i_86, z_i_88, z_l_Y, z_ui_62, z_ui_63, z_ui_86, z_ui_88, z_ul_Y, z_sz_Y, z_sw_Y, iI_nat, z_ix_t, z_at, Int.add_zero, Int.sub_zero, Int.zero_add, Int.mul_zero, ne_eq, Bool.false_eq_true, Bool.true_eq_false, reduceCtorEq, eq_self, and_true, true_and, and_false, false_and, and_self, not_true_eq_false, not_false_eq_true, decide_true, decide_false, ↓reduceIte, Int.reduceEq, Int.reduceNe, Int.reduceLT, Int.reduceLE, Int.reduceAdd, Int.reduceSub, Int.reduceMul, Int.reduceNeg, Nat.reduceAdd, Nat.reduceEqDiff, Nat.reduceBEq, ↓z_x_eq, z_g_t, z_bI_s, z_bL_s, z_bR_s, z_bV_s, Int.cast_ofNat_Int, beq_self_eq_true, Bool.and_true, Bool.true_and, Bool.and_self, Bool.or_true, Bool.true_or, Bool.false_and, Bool.and_false, Bool.false_or, Bool.or_false, Bool.not_false, Bool.not_true, if_true, if_false, ite_true, ite_false, z_up_eq, z_up_app, z_ro_eq, pi, d1, zb_f]
theorem t_cough (d : Nat) {S0 : ZG} {c : Int} {T : ZT} {G : ZG} (h : z_I S0 c T G) (hc : c < 600) {p : Int} (hp : i_in p) : z_pwr S0 c T G (fun σ => z_call (d + 7) 154 [vr 10, vi (iI p)] σ) (fun σ => z_call (d + 8) 171 [vr 80, vi (iI p)] σ) := by
  have ht := h.2.2.2.1
  refine pr_dd h hc (dd_wr _ (fun s a G' s' _ e => ?_) (dn_dd (d_cough d ⟨_, h.1, ht.1, ht.2.1⟩ hp)))
  rw [e_B_cough]
  simp -implicitDefEqProofs (disch := first | assumption | omega | rfl | (simp only [z_up_eq, z_up_app, ↓reduceIte, Nat.reduceEqDiff]; omega)) only [z_lit0, z_lit1, z_lit2, z_litl, iI_add, iI_sub, iI_mul, iI_neg, iI_and, iI_or, iI_xor, iI_shl, iI_shr, iI_ushr, iI_div, iI_b, iI_c, iI_i2l, lI_l2i, lI_add, lI_sub, lI_mul, lI_neg, lI_div, lI_or, lI_and, lI_shl, lI_shr, nI_iI, lg_lt0, lg_gt0, lg_eq0, i_ne0', l_ne0', iI_lt, iI_le, iI_eq, lI_lt, lI_le, lI_eq, zb_0, zb_fit, zb_fit0, zb_fit1, i_one_zero, i_w_in, z_tb0, z_tb1, z_tb2, z_tb3, z_tb4, z_tb5, z_tb6, z_tb7, z_tb8, z_tbl, z_tu0, z_tu1, z_tu2, z_i_62, z_i_63, z_i_86, z_i_88, z_l_Y, z_ui_62, z_ui_63, z_ui_86, z_ui_88, z_ul_Y, z_sz_Y, z_sw_Y, iI_nat, z_ix_t, z_at, Int.add_zero, Int.sub_zero, Int.zero_add, Int.mul_zero, ne_eq, Bool.false_eq_true, Bool.true_eq_false, reduceCtorEq, eq_self, and_true, true_and, and_false, false_and, and_self, not_true_eq_false, not_false_eq_true, decide_true, decide_false, ↓reduceIte, Int.reduceEq, Int.reduceNe, Int.reduceLT, Int.reduceLE, Int.reduceAdd, Int.reduceSub, Int.reduceMul, Int.reduceNeg, Nat.reduceAdd, Nat.reduceEqDiff, Nat.reduceBEq, ↓z_x_eq, z_g_t, z_bI_s, z_bL_s, z_bR_s, z_bV_s, Int.cast_ofNat_Int, beq_self_eq_true, Bool.and_true, Bool.true_and, Bool.and_self, Bool.or_true, Bool.true_or, Bool.false_and, Bool.and_false, Bool.false_or, Bool.or_false, Bool.not_false, Bool.not_true, if_true, if_false, ite_true, ite_false, z_up_eq, z_up_app, z_ro_eq, e]

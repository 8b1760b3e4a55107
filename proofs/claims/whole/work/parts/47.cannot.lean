/-! THE PURE PART, 27: cannot -/
/-- what one changes by being otherwise, at a note's beat, with an usher (t = 1) or without -/
def k_ch (A X : Int → Int) (be p t : Int) : Int := -t_breath A X p be (A (32 + 5 * p + 3)) (A (32 + 5 * p + 4)) (-t) (A (32 + 5 * p + 2)) + t_breath A X p be (A (32 + 5 * p + 3)) (m_oth (A (32 + 5 * p + 4))) (-t) (A (32 + 5 * p + 2))
theorem p_chg_l (d : Nat) (T : ZT) (G : ZG) {be : Int} (hQ : c_q T G) (hb : 0 ≤ be ∧ be ≤ 20000) : ∀ (n : Nat) (i : Int) (C : Int → Int) (s : ZG × ZG), 0 ≤ i → i + n = G 81 1 → (∀ p t, 0 ≤ p → p < i → 0 ≤ t → t < 2 → G 81 (32 + 5 * p + 3) ≠ -1 → C (2 * p + t) = k_ch (G 81) (G 83) be p t) → (∀ p t, i ≤ p → p < G 81 1 → 0 ≤ t → t < 2 → G 81 (32 + 5 * p + 3) ≠ -1 → C (2 * p + t) = -t_breath (G 81) (G 83) p be (G 81 (32 + 5 * p + 3)) (G 81 (32 + 5 * p + 4)) (-t) (G 81 (32 + 5 * p + 2))) → z_ok (z_w d_Qu_takeChanges (z_call (d + 5)) 2 [some (vr 66), some (vi (iI be)), some (vi (iI i))] [] (z_Y T (z_up G 69 C) s)) (fun y τ => y = vi (iI 0) ∧ ∃ C' s', τ = z_Y T (z_up G 69 C') s' ∧ ∀ p t, 0 ≤ p → p < G 81 1 → 0 ≤ t → t < 2 → G 81 (32 + 5 * p + 3) ≠ -1 → C' (2 * p + t) = k_ch (G 81) (G 83) be p t)
  | 0, i, C, s, h0, h, h1, h2 => by
    have m1 := hQ.1.1.2.1
    have q := (cw_h hQ.1).2.1
    have hf : (i < G 81 1) = False := eq_false (by omega)
    rw [e_Qu_takeChanges_2]
    simp -implicitDefEqProofs (disch := first | assumption | omega | rfl | (simp only [z_up_eq, z_up_app, ↓reduceIte, Nat.reduceEqDiff]; omega)) only [z_lit0, z_lit1, z_lit2, z_litl, iI_add, iI_sub, iI_mul, iI_neg, iI_and, iI_or, iI_xor, iI_shl, iI_shr, iI_ushr, iI_div, iI_b, iI_c, iI_i2l, lI_l2i, lI_add, lI_sub, lI_mul, lI_neg, lI_div, lI_or, lI_and, lI_shl, lI_shr, nI_iI, lg_lt0, lg_gt0, lg_eq0, i_ne0', l_ne0', iI_lt, iI_le, iI_eq, lI_lt, lI_le, lI_eq, zb_0, zb_fit, zb_fit0, zb_fit1, i_one_zero, i_w_in, z_tb0, z_tb1, z_tb2, z_tb3, z_tb4, z_tb5, z_tb6, z_tb7, z_tb8, z_tbl, z_tu0, z_tu1, z_tu2, z_i_62, z_i_63, z_i_86, z_i_88, z_l_Y, z_ui_62, z_ui_63, z_ui_86, z_ui_88, z_ul_Y, z_sz_Y, z_sw_Y, iI_nat, z_ix_t, z_at, Int.add_zero, Int.sub_zero, Int.zero_add, Int.mul_zero, ne_eq, Bool.false_eq_true, Bool.true_eq_false, reduceCtorEq, eq_self, and_true, true_and, and_false, false_and, and_self, not_true_eq_false, not_false_eq_true, decide_true, decide_false, ↓reduceIte, Int.reduceEq, Int.reduceNe, Int.reduceLT, Int.reduceLE, Int.reduceAdd, Int.reduceSub, Int.reduceMul, Int.reduceNeg, Nat.reduceAdd, Nat.reduceEqDiff, Nat.reduceBEq, ↓z_x_eq, z_g_t, z_bI_s, z_bL_s, z_bR_s, z_bV_s, Int.cast_ofNat_Int, beq_self_eq_true, Bool.and_true, Bool.true_and, Bool.and_self, Bool.or_true, Bool.true_or, Bool.false_and, Bool.and_false, Bool.false_or, Bool.or_false, Bool.not_false, Bool.not_true, if_true, if_false, ite_true, ite_false, z_up_eq, z_up_app, z_ro_eq, hf, q]
    exact ok_ret ⟨rfl, C, s, rfl, fun p t a b c e f => h1 p t a (by omega) c e f⟩
  | n + 1, i, C, s, h0, h, h1, h2 => by
    have m1 := hQ.1.1.2.1
    have q := (cw_h hQ.1).2.1
    have hf : (i < G 81 1) = True := eq_true (by omega)
    have hp : 0 ≤ i ∧ i < G 81 1 := ⟨h0, by omega⟩
    have br : ∀ us C s, z_ok (z_call (d + 5) 221 [vr 61, vi (iI i), vi (iI be), vi (iI us)] (z_Y T (z_up G 69 C) s)) (z_q T (z_up G 69 C) (vi (iI (t_breath (G 81) (G 83) i be (G 81 (32 + 5 * i + 3)) (m_oth (G 81 (32 + 5 * i + 4))) us (G 81 (32 + 5 * i + 2)))))) := fun us C s => p_coth d T (z_up G 69 C) s (p := i) (b := be) (us := us) (cq_up hQ (by omega)) hp hb
    rw [e_Qu_takeChanges_2]
    simp -implicitDefEqProofs (disch := first | assumption | omega | rfl | (simp only [z_up_eq, z_up_app, ↓reduceIte, Nat.reduceEqDiff]; omega)) only [z_lit0, z_lit1, z_lit2, z_litl, iI_add, iI_sub, iI_mul, iI_neg, iI_and, iI_or, iI_xor, iI_shl, iI_shr, iI_ushr, iI_div, iI_b, iI_c, iI_i2l, lI_l2i, lI_add, lI_sub, lI_mul, lI_neg, lI_div, lI_or, lI_and, lI_shl, lI_shr, nI_iI, lg_lt0, lg_gt0, lg_eq0, i_ne0', l_ne0', iI_lt, iI_le, iI_eq, lI_lt, lI_le, lI_eq, zb_0, zb_fit, zb_fit0, zb_fit1, i_one_zero, i_w_in, z_tb0, z_tb1, z_tb2, z_tb3, z_tb4, z_tb5, z_tb6, z_tb7, z_tb8, z_tbl, z_tu0, z_tu1, z_tu2, z_i_62, z_i_63, z_i_86, z_i_88, z_l_Y, z_ui_62, z_ui_63, z_ui_86, z_ui_88, z_ul_Y, z_sz_Y, z_sw_Y, iI_nat, z_ix_t, z_at, Int.add_zero, Int.sub_zero, Int.zero_add, Int.mul_zero, ne_eq, Bool.false_eq_true, Bool.true_eq_false, reduceCtorEq, eq_self, and_true, true_and, and_false, false_and, and_self, not_true_eq_false, not_false_eq_true, decide_true, decide_false, ↓reduceIte, Int.reduceEq, Int.reduceNe, Int.reduceLT, Int.reduceLE, Int.reduceAdd, Int.reduceSub, Int.reduceMul, Int.reduceNeg, Nat.reduceAdd, Nat.reduceEqDiff, Nat.reduceBEq, ↓z_x_eq, z_g_t, z_bI_s, z_bL_s, z_bR_s, z_bV_s, Int.cast_ofNat_Int, beq_self_eq_true, Bool.and_true, Bool.true_and, Bool.and_self, Bool.or_true, Bool.true_or, Bool.false_and, Bool.and_false, Bool.false_or, Bool.or_false, Bool.not_false, Bool.not_true, if_true, if_false, ite_true, ite_false, z_up_eq, z_up_app, z_ro_eq, hf, q]
    refine ok_cI (br 0 C s) (fun s1 => ?_)
    simp -implicitDefEqProofs (disch := first | assumption | omega | rfl | (simp only [z_up_eq, z_up_app, ↓reduceIte, Nat.reduceEqDiff]; omega)) only [z_lit0, z_lit1, z_lit2, z_litl, iI_add, iI_sub, iI_mul, iI_neg, iI_and, iI_or, iI_xor, iI_shl, iI_shr, iI_ushr, iI_div, iI_b, iI_c, iI_i2l, lI_l2i, lI_add, lI_sub, lI_mul, lI_neg, lI_div, lI_or, lI_and, lI_shl, lI_shr, nI_iI, lg_lt0, lg_gt0, lg_eq0, i_ne0', l_ne0', iI_lt, iI_le, iI_eq, lI_lt, lI_le, lI_eq, zb_0, zb_fit, zb_fit0, zb_fit1, i_one_zero, i_w_in, z_tb0, z_tb1, z_tb2, z_tb3, z_tb4, z_tb5, z_tb6, z_tb7, z_tb8, z_tbl, z_tu0, z_tu1, z_tu2, z_i_62, z_i_63, z_i_86, z_i_88, z_l_Y, z_ui_62, z_ui_63, z_ui_86, z_ui_88, z_ul_Y, z_sz_Y, z_sw_Y, iI_nat, z_ix_t, z_at, Int.add_zero, Int.sub_zero, Int.zero_add, Int.mul_zero, ne_eq, Bool.false_eq_true, Bool.true_eq_false, reduceCtorEq, eq_self, and_true, true_and, and_false, false_and, and_self, not_true_eq_false, not_false_eq_true, decide_true, decide_false, ↓reduceIte, Int.reduceEq, Int.reduceNe, Int.reduceLT, Int.reduceLE, Int.reduceAdd, Int.reduceSub, Int.reduceMul, Int.reduceNeg, Nat.reduceAdd, Nat.reduceEqDiff, Nat.reduceBEq, ↓z_x_eq, z_g_t, z_bI_s, z_bL_s, z_bR_s, z_bV_s, Int.cast_ofNat_Int, beq_self_eq_true, Bool.and_true, Bool.true_and, Bool.and_self, Bool.or_true, Bool.true_or, Bool.false_and, Bool.and_false, Bool.false_or, Bool.or_false, Bool.not_false, Bool.not_true, if_true, if_false, ite_true, ite_false, z_up_eq, z_up_app, z_ro_eq, z_up_up]
    refine ok_cI (br (-1) _ s1) (fun s2 => ?_)
    simp -implicitDefEqProofs (disch := first | assumption | omega | rfl | (simp only [z_up_eq, z_up_app, ↓reduceIte, Nat.reduceEqDiff]; omega)) only [z_lit0, z_lit1, z_lit2, z_litl, iI_add, iI_sub, iI_mul, iI_neg, iI_and, iI_or, iI_xor, iI_shl, iI_shr, iI_ushr, iI_div, iI_b, iI_c, iI_i2l, lI_l2i, lI_add, lI_sub, lI_mul, lI_neg, lI_div, lI_or, lI_and, lI_shl, lI_shr, nI_iI, lg_lt0, lg_gt0, lg_eq0, i_ne0', l_ne0', iI_lt, iI_le, iI_eq, lI_lt, lI_le, lI_eq, zb_0, zb_fit, zb_fit0, zb_fit1, i_one_zero, i_w_in, z_tb0, z_tb1, z_tb2, z_tb3, z_tb4, z_tb5, z_tb6, z_tb7, z_tb8, z_tbl, z_tu0, z_tu1, z_tu2, z_i_62, z_i_63, z_i_86, z_i_88, z_l_Y, z_ui_62, z_ui_63, z_ui_86, z_ui_88, z_ul_Y, z_sz_Y, z_sw_Y, iI_nat, z_ix_t, z_at, Int.add_zero, Int.sub_zero, Int.zero_add, Int.mul_zero, ne_eq, Bool.false_eq_true, Bool.true_eq_false, reduceCtorEq, eq_self, and_true, true_and, and_false, false_and, and_self, not_true_eq_false, not_false_eq_true, decide_true, decide_false, ↓reduceIte, Int.reduceEq, Int.reduceNe, Int.reduceLT, Int.reduceLE, Int.reduceAdd, Int.reduceSub, Int.reduceMul, Int.reduceNeg, Nat.reduceAdd, Nat.reduceEqDiff, Nat.reduceBEq, ↓z_x_eq, z_g_t, z_bI_s, z_bL_s, z_bR_s, z_bV_s, Int.cast_ofNat_Int, beq_self_eq_true, Bool.and_true, Bool.true_and, Bool.and_self, Bool.or_true, Bool.true_or, Bool.false_and, Bool.and_false, Bool.false_or, Bool.or_false, Bool.not_false, Bool.not_true, if_true, if_false, ite_true, ite_false, z_up_eq, z_up_app, z_ro_eq, z_up_up]
    refine p_chg_l d T G hQ hb n (i + 1) _ s2 (by omega) (by omega) (fun p t a b c e f => ?_) (fun p t a b c e f => ?_)
    · by_cases e2 : p = i
      · subst e2
        have o := h2 p t (Int.le_refl _) hp.2 c e f
        unfold k_ch
        rcases (show t = 0 ∨ t = 1 by omega) with rfl | rfl
        · rw [z_ro_ne _ _ (by omega), z_ro_pos _ _ (by omega)]
          rw [← o, Int.add_zero]; try rfl
        · rw [z_ro_pos _ _ (by omega), z_ro_ne _ _ (by omega), ← o]
      · rw [z_ro_ne _ _ (by omega), z_ro_ne _ _ (by omega)]; exact h1 p t a (by omega) c e f
    · rw [z_ro_ne _ _ (by omega), z_ro_ne _ _ (by omega)]; exact h2 p t (by omega) b c e f
/-- the air by a set of ushers and one otherwise -/
theorem k_air {A X : Int → Int} {us p be : Int} (hM : m_ok A) (hp : 0 ≤ p ∧ p < A 1) (hs : A (32 + 5 * p + 3) ≠ -1) : m_air0 (z_ro A 8 us) X be + k_ch A X be p (zb (i_has us (A (12 + 2 * A (32 + 5 * p + 3))))) = m_airo (z_ro A 8 us) X p be := by
  have mp := mo_p hM p hp.1 hp.2
  have m0 := hM.1
  have m1 := hM.2.1
  have ms := (mo_s hM (A (32 + 5 * p + 3)) (by omega) (by omega)).1
  have hg := ag_u (v := us) (ag_id A)
  unfold m_airo k_ch
  rw [z_ro_ne _ _ (show 32 + 5 * p + 3 ≠ 8 by omega), z_ro_ne _ _ (show 32 + 5 * p + 4 ≠ 8 by omega), z_ro_ne _ _ (show 32 + 5 * p + 2 ≠ 8 by omega), z_ro_eq, ag_breath hg ⟨hp.1, by omega⟩ ⟨by omega, by omega⟩, ag_breath hg ⟨hp.1, by omega⟩ ⟨by omega, by omega⟩]
  have key : ∀ hw, t_breath A X p be (A (32 + 5 * p + 3)) hw (-zb (i_has us (A (12 + 2 * A (32 + 5 * p + 3))))) (A (32 + 5 * p + 2)) = t_breath A X p be (A (32 + 5 * p + 3)) hw us (A (32 + 5 * p + 2)) := by
    intro hw
    refine t_breath_us (fun _ => ?_)
    cases i_has us (A (12 + 2 * A (32 + 5 * p + 3)))
    · exact i_has_0 ⟨by omega, by omega⟩
    · exact i_has_m1 ⟨by omega, by omega⟩
  rw [key, key]
  omega
def k_h0 (A X : Int → Int) (n us : Int) : Bool := m_holds A X (A 6) n (m_air0 (z_ro A 8 us) X (A (82 + 2 * n))) (A (82 + 2 * n))
def k_h1 (A X : Int → Int) (n us p : Int) : Bool := decide (A (32 + 5 * p + 3) ≠ -1) && m_holds A X (A 6) n (m_airo (z_ro A 8 us) X p (A (82 + 2 * n))) (A (82 + 2 * n))
def k_had (A X : Int → Int) (n : Int) : Bool := z_any 16 0 (k_h0 A X n) || z_any 16 0 (fun us => z_any (A 1).toNat 0 (k_h1 A X n us))
theorem m_airo_b {A X : Int → Int} {p b : Int} (hM : m_ok A) (hp : 0 ≤ p ∧ p < A 1) : -1000 ≤ m_airo A X p b ∧ m_airo A X p b ≤ 1000 := by
  have b0 := m_air0_in (X := X) (b := b) hM
  have b1 := t_breath_in (X := X) (b := b) (st := A (32 + 5 * p + 3)) (hw := A (32 + 5 * p + 4)) (us := A 8) (sa := A (32 + 5 * p + 2)) hM hp
  have b2 := t_breath_in (X := X) (b := b) (st := A (32 + 5 * p + 3)) (hw := m_oth (A (32 + 5 * p + 4))) (us := A 8) (sa := A (32 + 5 * p + 2)) hM hp
  unfold m_airo
  omega
theorem p_had_in (d : Nat) (T : ZT) (G G' : ZG) {k n us : Int} (hQ : c_q T G) (hu : u_st G G' k) (hn : 0 ≤ n ∧ n < G 81 2) (hus : 0 ≤ us ∧ us < 16) (hC : ∀ p t, 0 ≤ p → p < G 81 1 → 0 ≤ t → t < 2 → G 81 (32 + 5 * p + 3) ≠ -1 → G' 69 (2 * p + t) = k_ch (G 81) (G 83) (G 81 (82 + 2 * n)) p t) (R : Bool) (next : ∀ V s, v_ok G' n V → z_ok (z_w d_Qu_canBeHad (z_call (d + 4)) 25 [some (vr 66), none, some (vi (iI (us + 1))), none, none, none] [] (z_Y T (z_up G' 64 V) s)) (fun y τ => y = vi (iI (zb R)) ∧ ∃ V' s', τ = z_Y T (z_up G' 64 V') s' ∧ v_ok G' n V')) : ∀ (m : Nat) (i : Int) (V : Int → Int) (s : ZG × ZG), 0 ≤ i → i + m = G 81 1 → v_ok G' n V → z_ok (z_w d_Qu_canBeHad (z_call (d + 4)) 40 [some (vr 66), none, some (vi (iI us)), some (vi (iI (m_air0 (z_ro (G 81) 8 us) (G 83) (G 81 (82 + 2 * n))))), some (vi (iI i)), none] [] (z_Y T (z_up G' 64 V) s)) (fun y τ => y = vi (iI (zb (z_any m i (k_h1 (G 81) (G 83) n us) || R))) ∧ ∃ V' s', τ = z_Y T (z_up G' 64 V') s' ∧ v_ok G' n V')
  | 0, i, V, s, h0, h, hv => by
    have m1 := hQ.1.1.2.1
    have e81 : G' 81 = G 81 := hu.1 81 (by omega) (by omega) (by omega) (by omega)
    have q := (cw_h (u_cq hQ hu).1).2.1
    rw [e81] at q
    have hf : (i < G 81 1) = False := eq_false (by omega)
    rw [e_Qu_canBeHad_40]
    simp -implicitDefEqProofs (disch := first | assumption | omega | rfl | (simp only [z_up_eq, z_up_app, ↓reduceIte, Nat.reduceEqDiff]; omega)) only [z_lit0, z_lit1, z_lit2, z_litl, iI_add, iI_sub, iI_mul, iI_neg, iI_and, iI_or, iI_xor, iI_shl, iI_shr, iI_ushr, iI_div, iI_b, iI_c, iI_i2l, lI_l2i, lI_add, lI_sub, lI_mul, lI_neg, lI_div, lI_or, lI_and, lI_shl, lI_shr, nI_iI, lg_lt0, lg_gt0, lg_eq0, i_ne0', l_ne0', iI_lt, iI_le, iI_eq, lI_lt, lI_le, lI_eq, zb_0, zb_fit, zb_fit0, zb_fit1, i_one_zero, i_w_in, z_tb0, z_tb1, z_tb2, z_tb3, z_tb4, z_tb5, z_tb6, z_tb7, z_tb8, z_tbl, z_tu0, z_tu1, z_tu2, z_i_62, z_i_63, z_i_86, z_i_88, z_l_Y, z_ui_62, z_ui_63, z_ui_86, z_ui_88, z_ul_Y, z_sz_Y, z_sw_Y, iI_nat, z_ix_t, z_at, Int.add_zero, Int.sub_zero, Int.zero_add, Int.mul_zero, ne_eq, Bool.false_eq_true, Bool.true_eq_false, reduceCtorEq, eq_self, and_true, true_and, and_false, false_and, and_self, not_true_eq_false, not_false_eq_true, decide_true, decide_false, ↓reduceIte, Int.reduceEq, Int.reduceNe, Int.reduceLT, Int.reduceLE, Int.reduceAdd, Int.reduceSub, Int.reduceMul, Int.reduceNeg, Nat.reduceAdd, Nat.reduceEqDiff, Nat.reduceBEq, ↓z_x_eq, z_g_t, z_bI_s, z_bL_s, z_bR_s, z_bV_s, Int.cast_ofNat_Int, beq_self_eq_true, Bool.and_true, Bool.true_and, Bool.and_self, Bool.or_true, Bool.true_or, Bool.false_and, Bool.and_false, Bool.false_or, Bool.or_false, Bool.not_false, Bool.not_true, if_true, if_false, ite_true, ite_false, z_up_eq, z_up_app, z_ro_eq, hf, q]
    exact next V s hv
  | m + 1, i, V, s, h0, h, hv => by
    have ih := fun V s1 => p_had_in d T G G' hQ hu hn hus hC R next m (i + 1) V s1 (by omega) (by omega)
    have m0 := hQ.1.1.1
    have m1 := hQ.1.1.2.1
    have hp : 0 ≤ i ∧ i < G 81 1 := ⟨h0, by omega⟩
    have mp := mo_p hQ.1.1 i hp.1 hp.2
    have hQ' := u_cq hQ hu
    have e81 : G' 81 = G 81 := hu.1 81 (by omega) (by omega) (by omega) (by omega)
    have e83 : G' 83 = G 83 := hu.1 83 (by omega) (by omega) (by omega) (by omega)
    have q := (cw_h hQ'.1).2.1
    have o1 := (cw_o hQ'.1 i hp.1 (by rw [e81]; exact hp.2)).1
    rw [e81] at q o1
    have hf : (i < G 81 1) = True := eq_true (by omega)
    have e : z_any (m + 1) i (k_h1 (G 81) (G 83) n us) = (k_h1 (G 81) (G 83) n us i || z_any m (i + 1) (k_h1 (G 81) (G 83) n us)) := rfl
    rw [e, e_Qu_canBeHad_40]
    by_cases c : G 81 (32 + 5 * i + 3) = -1
    · have k1 : k_h1 (G 81) (G 83) n us i = false := by unfold k_h1; rw [decide_eq_false (fun q => q c)]; rfl
      rw [k1, Bool.false_or]
      simp -implicitDefEqProofs (disch := first | assumption | omega | rfl | (simp only [z_up_eq, z_up_app, ↓reduceIte, Nat.reduceEqDiff]; omega)) only [z_lit0, z_lit1, z_lit2, z_litl, iI_add, iI_sub, iI_mul, iI_neg, iI_and, iI_or, iI_xor, iI_shl, iI_shr, iI_ushr, iI_div, iI_b, iI_c, iI_i2l, lI_l2i, lI_add, lI_sub, lI_mul, lI_neg, lI_div, lI_or, lI_and, lI_shl, lI_shr, nI_iI, lg_lt0, lg_gt0, lg_eq0, i_ne0', l_ne0', iI_lt, iI_le, iI_eq, lI_lt, lI_le, lI_eq, zb_0, zb_fit, zb_fit0, zb_fit1, i_one_zero, i_w_in, z_tb0, z_tb1, z_tb2, z_tb3, z_tb4, z_tb5, z_tb6, z_tb7, z_tb8, z_tbl, z_tu0, z_tu1, z_tu2, z_i_62, z_i_63, z_i_86, z_i_88, z_l_Y, z_ui_62, z_ui_63, z_ui_86, z_ui_88, z_ul_Y, z_sz_Y, z_sw_Y, iI_nat, z_ix_t, z_at, Int.add_zero, Int.sub_zero, Int.zero_add, Int.mul_zero, ne_eq, Bool.false_eq_true, Bool.true_eq_false, reduceCtorEq, eq_self, and_true, true_and, and_false, false_and, and_self, not_true_eq_false, not_false_eq_true, decide_true, decide_false, ↓reduceIte, Int.reduceEq, Int.reduceNe, Int.reduceLT, Int.reduceLE, Int.reduceAdd, Int.reduceSub, Int.reduceMul, Int.reduceNeg, Nat.reduceAdd, Nat.reduceEqDiff, Nat.reduceBEq, ↓z_x_eq, z_g_t, z_bI_s, z_bL_s, z_bR_s, z_bV_s, Int.cast_ofNat_Int, beq_self_eq_true, Bool.and_true, Bool.true_and, Bool.and_self, Bool.or_true, Bool.true_or, Bool.false_and, Bool.and_false, Bool.false_or, Bool.or_false, Bool.not_false, Bool.not_true, if_true, if_false, ite_true, ite_false, z_up_eq, z_up_app, z_ro_eq, hf, q, o1, c]
      exact ih V s hv
    · have k1 : k_h1 (G 81) (G 83) n us i = m_holds (G 81) (G 83) (G 81 6) n (m_airo (z_ro (G 81) 8 us) (G 83) i (G 81 (82 + 2 * n))) (G 81 (82 + 2 * n)) := by unfold k_h1; rw [decide_eq_true c]; rfl
      have s5 := (cw_s hQ'.1 (G 81 (32 + 5 * i + 3)) (by omega) (by rw [e81]; omega)).1
      rw [e81] at s5
      have zz := zb_in (i_has us (G 81 (12 + 2 * G 81 (32 + 5 * i + 3))))
      have c2 := hC i (zb (i_has us (G 81 (12 + 2 * G 81 (32 + 5 * i + 3))))) h0 hp.2 zz.1 (by omega) c
      have ka := k_air (X := G 83) (us := us) (be := G 81 (82 + 2 * n)) hQ.1.1 hp c
      have hB := ag_ush hQ.1.1 (v := us) ⟨hus.1, by omega⟩
      have ab := m_airo_b (X := G 83) (b := G 81 (82 + 2 * n)) (p := i) hB ⟨hp.1, by rw [z_ro_ne _ _ (by omega)]; exact hp.2⟩
      have pw := p_would d T G' s (n := n) (V := V) hQ' hv ab
      rw [e81, e83] at pw
      rw [k1]
      simp -implicitDefEqProofs (disch := first | assumption | omega | rfl | (simp only [z_up_eq, z_up_app, ↓reduceIte, Nat.reduceEqDiff]; omega)) only [z_lit0, z_lit1, z_lit2, z_litl, iI_add, iI_sub, iI_mul, iI_neg, iI_and, iI_or, iI_xor, iI_shl, iI_shr, iI_ushr, iI_div, iI_b, iI_c, iI_i2l, lI_l2i, lI_add, lI_sub, lI_mul, lI_neg, lI_div, lI_or, lI_and, lI_shl, lI_shr, nI_iI, lg_lt0, lg_gt0, lg_eq0, i_ne0', l_ne0', iI_lt, iI_le, iI_eq, lI_lt, lI_le, lI_eq, zb_0, zb_fit, zb_fit0, zb_fit1, i_one_zero, i_w_in, z_tb0, z_tb1, z_tb2, z_tb3, z_tb4, z_tb5, z_tb6, z_tb7, z_tb8, z_tbl, z_tu0, z_tu1, z_tu2, z_i_62, z_i_63, z_i_86, z_i_88, z_l_Y, z_ui_62, z_ui_63, z_ui_86, z_ui_88, z_ul_Y, z_sz_Y, z_sw_Y, iI_nat, z_ix_t, z_at, Int.add_zero, Int.sub_zero, Int.zero_add, Int.mul_zero, ne_eq, Bool.false_eq_true, Bool.true_eq_false, reduceCtorEq, eq_self, and_true, true_and, and_false, false_and, and_self, not_true_eq_false, not_false_eq_true, decide_true, decide_false, ↓reduceIte, Int.reduceEq, Int.reduceNe, Int.reduceLT, Int.reduceLE, Int.reduceAdd, Int.reduceSub, Int.reduceMul, Int.reduceNeg, Nat.reduceAdd, Nat.reduceEqDiff, Nat.reduceBEq, ↓z_x_eq, z_g_t, z_bI_s, z_bL_s, z_bR_s, z_bV_s, Int.cast_ofNat_Int, beq_self_eq_true, Bool.and_true, Bool.true_and, Bool.and_self, Bool.or_true, Bool.true_or, Bool.false_and, Bool.and_false, Bool.false_or, Bool.or_false, Bool.not_false, Bool.not_true, if_true, if_false, ite_true, ite_false, z_up_eq, z_up_app, z_ro_eq, hf, q, o1, c, s5, i_and1_zb, c2, ka]
      refine ok_pI pw ?_
      rintro y τ ⟨rfl, V1, s1, rfl, hv1⟩
      refine ⟨_, rfl, ?_⟩
      cases m_holds (G 81) (G 83) (G 81 6) n (m_airo (z_ro (G 81) 8 us) (G 83) i (G 81 (82 + 2 * n))) (G 81 (82 + 2 * n))
      · simp -implicitDefEqProofs (disch := first | assumption | omega | rfl | (simp only [z_up_eq, z_up_app, ↓reduceIte, Nat.reduceEqDiff]; omega)) only [z_lit0, z_lit1, z_lit2, z_litl, iI_add, iI_sub, iI_mul, iI_neg, iI_and, iI_or, iI_xor, iI_shl, iI_shr, iI_ushr, iI_div, iI_b, iI_c, iI_i2l, lI_l2i, lI_add, lI_sub, lI_mul, lI_neg, lI_div, lI_or, lI_and, lI_shl, lI_shr, nI_iI, lg_lt0, lg_gt0, lg_eq0, i_ne0', l_ne0', iI_lt, iI_le, iI_eq, lI_lt, lI_le, lI_eq, zb_0, zb_fit, zb_fit0, zb_fit1, i_one_zero, i_w_in, z_tb0, z_tb1, z_tb2, z_tb3, z_tb4, z_tb5, z_tb6, z_tb7, z_tb8, z_tbl, z_tu0, z_tu1, z_tu2, z_i_62, z_i_63, z_i_86, z_i_88, z_l_Y, z_ui_62, z_ui_63, z_ui_86, z_ui_88, z_ul_Y, z_sz_Y, z_sw_Y, iI_nat, z_ix_t, z_at, Int.add_zero, Int.sub_zero, Int.zero_add, Int.mul_zero, ne_eq, Bool.false_eq_true, Bool.true_eq_false, reduceCtorEq, eq_self, and_true, true_and, and_false, false_and, and_self, not_true_eq_false, not_false_eq_true, decide_true, decide_false, ↓reduceIte, Int.reduceEq, Int.reduceNe, Int.reduceLT, Int.reduceLE, Int.reduceAdd, Int.reduceSub, Int.reduceMul, Int.reduceNeg, Nat.reduceAdd, Nat.reduceEqDiff, Nat.reduceBEq, ↓z_x_eq, z_g_t, z_bI_s, z_bL_s, z_bR_s, z_bV_s, Int.cast_ofNat_Int, beq_self_eq_true, Bool.and_true, Bool.true_and, Bool.and_self, Bool.or_true, Bool.true_or, Bool.false_and, Bool.and_false, Bool.false_or, Bool.or_false, Bool.not_false, Bool.not_true, if_true, if_false, ite_true, ite_false, z_up_eq, z_up_app, z_ro_eq, zb_f]
        exact ih V1 s1 hv1
      · simp -implicitDefEqProofs (disch := first | assumption | omega | rfl | (simp only [z_up_eq, z_up_app, ↓reduceIte, Nat.reduceEqDiff]; omega)) only [z_lit0, z_lit1, z_lit2, z_litl, iI_add, iI_sub, iI_mul, iI_neg, iI_and, iI_or, iI_xor, iI_shl, iI_shr, iI_ushr, iI_div, iI_b, iI_c, iI_i2l, lI_l2i, lI_add, lI_sub, lI_mul, lI_neg, lI_div, lI_or, lI_and, lI_shl, lI_shr, nI_iI, lg_lt0, lg_gt0, lg_eq0, i_ne0', l_ne0', iI_lt, iI_le, iI_eq, lI_lt, lI_le, lI_eq, zb_0, zb_fit, zb_fit0, zb_fit1, i_one_zero, i_w_in, z_tb0, z_tb1, z_tb2, z_tb3, z_tb4, z_tb5, z_tb6, z_tb7, z_tb8, z_tbl, z_tu0, z_tu1, z_tu2, z_i_62, z_i_63, z_i_86, z_i_88, z_l_Y, z_ui_62, z_ui_63, z_ui_86, z_ui_88, z_ul_Y, z_sz_Y, z_sw_Y, iI_nat, z_ix_t, z_at, Int.add_zero, Int.sub_zero, Int.zero_add, Int.mul_zero, ne_eq, Bool.false_eq_true, Bool.true_eq_false, reduceCtorEq, eq_self, and_true, true_and, and_false, false_and, and_self, not_true_eq_false, not_false_eq_true, decide_true, decide_false, ↓reduceIte, Int.reduceEq, Int.reduceNe, Int.reduceLT, Int.reduceLE, Int.reduceAdd, Int.reduceSub, Int.reduceMul, Int.reduceNeg, Nat.reduceAdd, Nat.reduceEqDiff, Nat.reduceBEq, ↓z_x_eq, z_g_t, z_bI_s, z_bL_s, z_bR_s, z_bV_s, Int.cast_ofNat_Int, beq_self_eq_true, Bool.and_true, Bool.true_and, Bool.and_self, Bool.or_true, Bool.true_or, Bool.false_and, Bool.and_false, Bool.false_or, Bool.or_false, Bool.not_false, Bool.not_true, if_true, if_false, ite_true, ite_false, z_up_eq, z_up_app, z_ro_eq, zb_t]
        exact ok_ret ⟨rfl, V1, s1, rfl, hv1⟩
theorem p_had_out (d : Nat) (T : ZT) (G G' : ZG) {k n : Int} (hQ : c_q T G) (hu : u_st G G' k) (hn : 0 ≤ n ∧ n < G 81 2) (hB : ∃ C, u_b (G 81) (G 83) (G 81 (82 + 2 * n)) (G 81 1).toNat (G' 68) C) (hC : ∀ p t, 0 ≤ p → p < G 81 1 → 0 ≤ t → t < 2 → G 81 (32 + 5 * p + 3) ≠ -1 → G' 69 (2 * p + t) = k_ch (G 81) (G 83) (G 81 (82 + 2 * n)) p t) : ∀ (m : Nat) (us : Int) (V : Int → Int) (s : ZG × ZG), 0 ≤ us → us + m = 16 → v_ok G' n V → z_ok (z_w d_Qu_canBeHad (z_call (d + 4)) 25 [some (vr 66), none, some (vi (iI us)), none, none, none] [] (z_Y T (z_up G' 64 V) s)) (fun y τ => y = vi (iI (zb (z_any m us (fun us => z_any (G 81 1).toNat 0 (k_h1 (G 81) (G 83) n us))))) ∧ ∃ V' s', τ = z_Y T (z_up G' 64 V') s' ∧ v_ok G' n V')
  | 0, us, V, s, h0, h, hv => by
    have hf : (us < 16) = False := eq_false (by omega)
    rw [e_Qu_canBeHad_25]
    simp -implicitDefEqProofs (disch := first | assumption | omega | rfl | (simp only [z_up_eq, z_up_app, ↓reduceIte, Nat.reduceEqDiff]; omega)) only [z_lit0, z_lit1, z_lit2, z_litl, iI_add, iI_sub, iI_mul, iI_neg, iI_and, iI_or, iI_xor, iI_shl, iI_shr, iI_ushr, iI_div, iI_b, iI_c, iI_i2l, lI_l2i, lI_add, lI_sub, lI_mul, lI_neg, lI_div, lI_or, lI_and, lI_shl, lI_shr, nI_iI, lg_lt0, lg_gt0, lg_eq0, i_ne0', l_ne0', iI_lt, iI_le, iI_eq, lI_lt, lI_le, lI_eq, zb_0, zb_fit, zb_fit0, zb_fit1, i_one_zero, i_w_in, z_tb0, z_tb1, z_tb2, z_tb3, z_tb4, z_tb5, z_tb6, z_tb7, z_tb8, z_tbl, z_tu0, z_tu1, z_tu2, z_i_62, z_i_63, z_i_86, z_i_88, z_l_Y, z_ui_62, z_ui_63, z_ui_86, z_ui_88, z_ul_Y, z_sz_Y, z_sw_Y, iI_nat, z_ix_t, z_at, Int.add_zero, Int.sub_zero, Int.zero_add, Int.mul_zero, ne_eq, Bool.false_eq_true, Bool.true_eq_false, reduceCtorEq, eq_self, and_true, true_and, and_false, false_and, and_self, not_true_eq_false, not_false_eq_true, decide_true, decide_false, ↓reduceIte, Int.reduceEq, Int.reduceNe, Int.reduceLT, Int.reduceLE, Int.reduceAdd, Int.reduceSub, Int.reduceMul, Int.reduceNeg, Nat.reduceAdd, Nat.reduceEqDiff, Nat.reduceBEq, ↓z_x_eq, z_g_t, z_bI_s, z_bL_s, z_bR_s, z_bV_s, Int.cast_ofNat_Int, beq_self_eq_true, Bool.and_true, Bool.true_and, Bool.and_self, Bool.or_true, Bool.true_or, Bool.false_and, Bool.and_false, Bool.false_or, Bool.or_false, Bool.not_false, Bool.not_true, if_true, if_false, ite_true, ite_false, z_up_eq, z_up_app, z_ro_eq, hf]
    exact ok_ret ⟨rfl, V, s, rfl, hv⟩
  | m + 1, us, V, s, h0, h, hv => by
    have m1 := hQ.1.1.2.1
    have hf : (us < 16) = True := eq_true (by omega)
    have e81 : G' 81 = G 81 := hu.1 81 (by omega) (by omega) (by omega) (by omega)
    have e83 : G' 83 = G 83 := hu.1 83 (by omega) (by omega) (by omega) (by omega)
    obtain ⟨C0, hB0⟩ := hB
    have pa := p_airBy (d + 3) T (z_up G' 64 V) s (be := G 81 (82 + 2 * n)) (us := us) (C := C0) (by rw [z_up_ne _ _ (show 81 ≠ 64 by omega), e81]; exact hQ.1.1) ⟨h0, by omega⟩ (by rw [z_up_ne _ _ (show 81 ≠ 64 by omega), z_up_ne _ _ (show 83 ≠ 64 by omega), z_up_ne _ _ (show 68 ≠ 64 by omega), e81, e83]; exact hB0)
    rw [z_up_ne _ _ (show 81 ≠ 64 by omega), z_up_ne _ _ (show 83 ≠ 64 by omega), e81, e83] at pa
    rw [e_Qu_canBeHad_25]
    simp -implicitDefEqProofs (disch := first | assumption | omega | rfl | (simp only [z_up_eq, z_up_app, ↓reduceIte, Nat.reduceEqDiff]; omega)) only [z_lit0, z_lit1, z_lit2, z_litl, iI_add, iI_sub, iI_mul, iI_neg, iI_and, iI_or, iI_xor, iI_shl, iI_shr, iI_ushr, iI_div, iI_b, iI_c, iI_i2l, lI_l2i, lI_add, lI_sub, lI_mul, lI_neg, lI_div, lI_or, lI_and, lI_shl, lI_shr, nI_iI, lg_lt0, lg_gt0, lg_eq0, i_ne0', l_ne0', iI_lt, iI_le, iI_eq, lI_lt, lI_le, lI_eq, zb_0, zb_fit, zb_fit0, zb_fit1, i_one_zero, i_w_in, z_tb0, z_tb1, z_tb2, z_tb3, z_tb4, z_tb5, z_tb6, z_tb7, z_tb8, z_tbl, z_tu0, z_tu1, z_tu2, z_i_62, z_i_63, z_i_86, z_i_88, z_l_Y, z_ui_62, z_ui_63, z_ui_86, z_ui_88, z_ul_Y, z_sz_Y, z_sw_Y, iI_nat, z_ix_t, z_at, Int.add_zero, Int.sub_zero, Int.zero_add, Int.mul_zero, ne_eq, Bool.false_eq_true, Bool.true_eq_false, reduceCtorEq, eq_self, and_true, true_and, and_false, false_and, and_self, not_true_eq_false, not_false_eq_true, decide_true, decide_false, ↓reduceIte, Int.reduceEq, Int.reduceNe, Int.reduceLT, Int.reduceLE, Int.reduceAdd, Int.reduceSub, Int.reduceMul, Int.reduceNeg, Nat.reduceAdd, Nat.reduceEqDiff, Nat.reduceBEq, ↓z_x_eq, z_g_t, z_bI_s, z_bL_s, z_bR_s, z_bV_s, Int.cast_ofNat_Int, beq_self_eq_true, Bool.and_true, Bool.true_and, Bool.and_self, Bool.or_true, Bool.true_or, Bool.false_and, Bool.and_false, Bool.false_or, Bool.or_false, Bool.not_false, Bool.not_true, if_true, if_false, ite_true, ite_false, z_up_eq, z_up_app, z_ro_eq, hf, pa]
    exact p_had_in d T G G' hQ hu hn ⟨h0, by omega⟩ hC _ (fun V s hv => p_had_out d T G G' hQ hu hn ⟨C0, hB0⟩ hC m (us + 1) V s (by omega) (by omega) hv) (G 81 1).toNat 0 V s (by omega) (by omega) hv
theorem k_sets0 {A X : Int → Int} {n : Int} : (u_sets A X n = 0) ↔ z_any 16 0 (k_h0 A X n) = false := by
  have h := z_bor_iff (k_h0 A X n) (n := 16) (x := 0) (by omega) ⟨by omega, by decide⟩
  have e : u_sets A X n = z_bor 16 0 (k_h0 A X n) 0 := rfl
  rw [e, h]
  constructor
  · intro q
    cases hz : z_any 16 0 (k_h0 A X n) with
    | false => rfl
    | true =>
      obtain ⟨k, a, b, c⟩ := (z_any_iff 16 0).mp hz
      have := q k a (by omega)
      rw [c, i_has_0 ⟨a, by omega⟩] at this
      cases this
  · intro q k a b
    rw [i_has_0 ⟨a, by omega⟩]
    cases hk : k_h0 A X n k with
    | false => rfl
    | true =>
      have := (z_any_iff (P := k_h0 A X n) 16 0).mpr ⟨k, a, by omega, hk⟩
      rw [q] at this; cases this
theorem p_had (d : Nat) (T : ZT) (G G' : ZG) (s : ZG × ZG) {k n : Int} (hQ : c_q T G) (hu : u_st G G' k) (hk : G 61 5 + k ≤ 90000) (hn : 0 ≤ n ∧ n < G 81 2) : z_ok (z_call (d + 7) 261 [vr 66, vi (iI n)] (z_Y T G' s)) (fun y τ => y = vi (iI (zb (k_had (G 81) (G 83) n))) ∧ ∃ G2 s', τ = z_Y T G2 s' ∧ u_st G G2 (k + 1)) := by
  have mn := mo_n hQ.1.1 n hn.1 hn.2
  have m1 := hQ.1.1.2.1
  have m2 := hQ.1.1.2.2.1
  rw [e_Qu_canBeHad]
  simp -implicitDefEqProofs (disch := first | assumption | omega | rfl | (simp only [z_up_eq, z_up_app, ↓reduceIte, Nat.reduceEqDiff]; omega)) only [z_lit0, z_lit1, z_lit2, z_litl, iI_add, iI_sub, iI_mul, iI_neg, iI_and, iI_or, iI_xor, iI_shl, iI_shr, iI_ushr, iI_div, iI_b, iI_c, iI_i2l, lI_l2i, lI_add, lI_sub, lI_mul, lI_neg, lI_div, lI_or, lI_and, lI_shl, lI_shr, nI_iI, lg_lt0, lg_gt0, lg_eq0, i_ne0', l_ne0', iI_lt, iI_le, iI_eq, lI_lt, lI_le, lI_eq, zb_0, zb_fit, zb_fit0, zb_fit1, i_one_zero, i_w_in, z_tb0, z_tb1, z_tb2, z_tb3, z_tb4, z_tb5, z_tb6, z_tb7, z_tb8, z_tbl, z_tu0, z_tu1, z_tu2, z_i_62, z_i_63, z_i_86, z_i_88, z_l_Y, z_ui_62, z_ui_63, z_ui_86, z_ui_88, z_ul_Y, z_sz_Y, z_sw_Y, iI_nat, z_ix_t, z_at, Int.add_zero, Int.sub_zero, Int.zero_add, Int.mul_zero, ne_eq, Bool.false_eq_true, Bool.true_eq_false, reduceCtorEq, eq_self, and_true, true_and, and_false, false_and, and_self, not_true_eq_false, not_false_eq_true, decide_true, decide_false, ↓reduceIte, Int.reduceEq, Int.reduceNe, Int.reduceLT, Int.reduceLE, Int.reduceAdd, Int.reduceSub, Int.reduceMul, Int.reduceNeg, Nat.reduceAdd, Nat.reduceEqDiff, Nat.reduceBEq, ↓z_x_eq, z_g_t, z_bI_s, z_bL_s, z_bR_s, z_bV_s, Int.cast_ofNat_Int, beq_self_eq_true, Bool.and_true, Bool.true_and, Bool.and_self, Bool.or_true, Bool.true_or, Bool.false_and, Bool.and_false, Bool.false_or, Bool.or_false, Bool.not_false, Bool.not_true, if_true, if_false, ite_true, ite_false, z_up_eq, z_up_app, z_ro_eq]
  refine ok_pI (p_sets d T G G' s hQ hu hk hn) ?_
  rintro y τ ⟨rfl, G2, s1, rfl, hu2, hv, hB⟩
  refine ⟨_, rfl, ?_⟩
  have e81 : G2 81 = G 81 := hu2.1 81 (by omega) (by omega) (by omega) (by omega)
  have e83 : G2 83 = G 83 := hu2.1 83 (by omega) (by omega) (by omega) (by omega)
  have si : i_in (u_sets (G 81) (G 83) n) := z_bor_in _ _ _ _ ⟨by omega, by omega⟩
  unfold k_had
  by_cases c : u_sets (G 81) (G 83) n = 0
  · rw [k_sets0.mp c, Bool.false_or]
    have q2 := (cw_n (u_cq hQ hu2).1 n hn.1 (by rw [e81]; exact hn.2)).1
    rw [e81] at q2
    simp -implicitDefEqProofs (disch := first | assumption | omega | rfl | (simp only [z_up_eq, z_up_app, ↓reduceIte, Nat.reduceEqDiff]; omega)) only [z_lit0, z_lit1, z_lit2, z_litl, iI_add, iI_sub, iI_mul, iI_neg, iI_and, iI_or, iI_xor, iI_shl, iI_shr, iI_ushr, iI_div, iI_b, iI_c, iI_i2l, lI_l2i, lI_add, lI_sub, lI_mul, lI_neg, lI_div, lI_or, lI_and, lI_shl, lI_shr, nI_iI, lg_lt0, lg_gt0, lg_eq0, i_ne0', l_ne0', iI_lt, iI_le, iI_eq, lI_lt, lI_le, lI_eq, zb_0, zb_fit, zb_fit0, zb_fit1, i_one_zero, i_w_in, z_tb0, z_tb1, z_tb2, z_tb3, z_tb4, z_tb5, z_tb6, z_tb7, z_tb8, z_tbl, z_tu0, z_tu1, z_tu2, z_i_62, z_i_63, z_i_86, z_i_88, z_l_Y, z_ui_62, z_ui_63, z_ui_86, z_ui_88, z_ul_Y, z_sz_Y, z_sw_Y, iI_nat, z_ix_t, z_at, Int.add_zero, Int.sub_zero, Int.zero_add, Int.mul_zero, ne_eq, Bool.false_eq_true, Bool.true_eq_false, reduceCtorEq, eq_self, and_true, true_and, and_false, false_and, and_self, not_true_eq_false, not_false_eq_true, decide_true, decide_false, ↓reduceIte, Int.reduceEq, Int.reduceNe, Int.reduceLT, Int.reduceLE, Int.reduceAdd, Int.reduceSub, Int.reduceMul, Int.reduceNeg, Nat.reduceAdd, Nat.reduceEqDiff, Nat.reduceBEq, ↓z_x_eq, z_g_t, z_bI_s, z_bL_s, z_bR_s, z_bV_s, Int.cast_ofNat_Int, beq_self_eq_true, Bool.and_true, Bool.true_and, Bool.and_self, Bool.or_true, Bool.true_or, Bool.false_and, Bool.and_false, Bool.false_or, Bool.or_false, Bool.not_false, Bool.not_true, if_true, if_false, ite_true, ite_false, z_up_eq, z_up_app, z_ro_eq, c, q2, e_Qu_takeChanges]
    have w := p_chg_l d T G2 (be := G 81 (82 + 2 * n)) (u_cq hQ hu2) (by omega) (G 81 1).toNat 0 (G2 69) s1 (by omega) (by rw [e81]; omega) (fun p t a b => by omega) (fun p t a b c e f => by rw [e81] at b f ⊢; rw [e83]; exact hB.2 p t a (by omega) c e f)
    rw [z_up_id, e81, e83] at w
    refine ok_pV w ?_
    rintro y τ ⟨rfl, C, s2, rfl, hC⟩
    refine ⟨_, rfl, ?_⟩
    have hu3 : u_st G (z_up G2 69 C) (k + 1) := by
      refine ⟨fun r a b c e => ?_, ?_, ?_, fun i a b => ?_⟩
      · rw [z_up_ne _ _ e]; exact hu2.1 r a b c e
      · rw [z_up_ne _ _ (show 61 ≠ 69 by omega)]; exact hu2.2.1
      · rw [z_up_ne _ _ (show 61 ≠ 69 by omega)]; exact hu2.2.2.1
      · rw [z_up_ne _ _ (show 61 ≠ 69 by omega), z_up_ne _ _ (show 64 ≠ 69 by omega)]; exact hu2.2.2.2 i a b
    have hv3 : v_ok (z_up G2 69 C) n (z_up G2 69 C 64) := by
      unfold v_ok at *
      rw [z_up_ne _ _ (show 61 ≠ 69 by omega), z_up_ne _ _ (show 64 ≠ 69 by omega), z_up_ne _ _ (show 81 ≠ 69 by omega), z_up_ne _ _ (show 83 ≠ 69 by omega)]
      exact hv
    have w2 := p_had_out (d + 2) T G (z_up G2 69 C) hQ hu3 hn ⟨G2 69, by rw [z_up_ne _ _ (show 68 ≠ 69 by omega)]; exact hB⟩ (fun p t a b c e f => by rw [z_up_eq]; exact hC p t a b c e f) 16 0 _ s2 (by omega) (by omega) hv3
    rw [z_up_id] at w2
    refine ok_mono w2 ?_
    rintro y τ ⟨rfl, V, s3, rfl, hv4⟩
    refine ⟨rfl, _, s3, rfl, fun r a b c e => ?_, ?_, ?_, fun i a b => ?_⟩
    · rw [z_up_ne _ _ b]; exact hu3.1 r a b c e
    · rw [z_up_ne _ _ (show 61 ≠ 64 by omega)]; exact hu3.2.1
    · rw [z_up_ne _ _ (show 61 ≠ 64 by omega)]; exact hu3.2.2.1
    · rw [z_up_ne _ _ (show 61 ≠ 64 by omega), z_up_eq]; exact (hv4.2.2.2 i a b).1
  · have c2 : z_any 16 0 (k_h0 (G 81) (G 83) n) = true := by
      cases hz : z_any 16 0 (k_h0 (G 81) (G 83) n) with
      | true => rfl
      | false => exact absurd (k_sets0.mpr hz) c
    rw [c2, Bool.true_or]
    simp -implicitDefEqProofs (disch := first | assumption | omega | rfl | (simp only [z_up_eq, z_up_app, ↓reduceIte, Nat.reduceEqDiff]; omega)) only [z_lit0, z_lit1, z_lit2, z_litl, iI_add, iI_sub, iI_mul, iI_neg, iI_and, iI_or, iI_xor, iI_shl, iI_shr, iI_ushr, iI_div, iI_b, iI_c, iI_i2l, lI_l2i, lI_add, lI_sub, lI_mul, lI_neg, lI_div, lI_or, lI_and, lI_shl, lI_shr, nI_iI, lg_lt0, lg_gt0, lg_eq0, i_ne0', l_ne0', iI_lt, iI_le, iI_eq, lI_lt, lI_le, lI_eq, zb_0, zb_fit, zb_fit0, zb_fit1, i_one_zero, i_w_in, z_tb0, z_tb1, z_tb2, z_tb3, z_tb4, z_tb5, z_tb6, z_tb7, z_tb8, z_tbl, z_tu0, z_tu1, z_tu2, z_i_62, z_i_63, z_i_86, z_i_88, z_l_Y, z_ui_62, z_ui_63, z_ui_86, z_ui_88, z_ul_Y, z_sz_Y, z_sw_Y, iI_nat, z_ix_t, z_at, Int.add_zero, Int.sub_zero, Int.zero_add, Int.mul_zero, ne_eq, Bool.false_eq_true, Bool.true_eq_false, reduceCtorEq, eq_self, and_true, true_and, and_false, false_and, and_self, not_true_eq_false, not_false_eq_true, decide_true, decide_false, ↓reduceIte, Int.reduceEq, Int.reduceNe, Int.reduceLT, Int.reduceLE, Int.reduceAdd, Int.reduceSub, Int.reduceMul, Int.reduceNeg, Nat.reduceAdd, Nat.reduceEqDiff, Nat.reduceBEq, ↓z_x_eq, z_g_t, z_bI_s, z_bL_s, z_bR_s, z_bV_s, Int.cast_ofNat_Int, beq_self_eq_true, Bool.and_true, Bool.true_and, Bool.and_self, Bool.or_true, Bool.true_or, Bool.false_and, Bool.and_false, Bool.false_or, Bool.or_false, Bool.not_false, Bool.not_true, if_true, if_false, ite_true, ite_false, z_up_eq, z_up_app, z_ro_eq, c]
    exact ok_ret ⟨rfl, G2, s1, rfl, hu2⟩
theorem p_reach_l (d : Nat) (T : ZT) (G : ZG) (hQ : c_q T G) (hk : G 61 5 ≤ 80000) : ∀ (n : Nat) (i acc : Int) (G' : ZG) (s : ZG × ZG), 0 ≤ i → i + n = G 81 2 → u_st G G' i → z_ok (z_w d_Qu_outOfReach (z_call (d + 7)) 4 [some (vr 66), some (vi (iI acc)), some (vi (iI i))] [] (z_Y T G' s)) (fun y τ => y = vi (iI (z_bor n i (fun n => !(k_had (G 81) (G 83) n)) acc)) ∧ ∃ G2 s', τ = z_Y T G2 s' ∧ u_st G G2 12)
  | 0, i, acc, G', s, h0, h, hu => by
    have m2 := hQ.1.1.2.2.1
    have q := (cw_h (u_cq hQ hu).1).2.2.1
    have e81 : G' 81 = G 81 := hu.1 81 (by omega) (by omega) (by omega) (by omega)
    rw [e81] at q
    have hf : (i < G 81 2) = False := eq_false (by omega)
    rw [e_Qu_outOfReach_4]
    simp -implicitDefEqProofs (disch := first | assumption | omega | rfl | (simp only [z_up_eq, z_up_app, ↓reduceIte, Nat.reduceEqDiff]; omega)) only [z_lit0, z_lit1, z_lit2, z_litl, iI_add, iI_sub, iI_mul, iI_neg, iI_and, iI_or, iI_xor, iI_shl, iI_shr, iI_ushr, iI_div, iI_b, iI_c, iI_i2l, lI_l2i, lI_add, lI_sub, lI_mul, lI_neg, lI_div, lI_or, lI_and, lI_shl, lI_shr, nI_iI, lg_lt0, lg_gt0, lg_eq0, i_ne0', l_ne0', iI_lt, iI_le, iI_eq, lI_lt, lI_le, lI_eq, zb_0, zb_fit, zb_fit0, zb_fit1, i_one_zero, i_w_in, z_tb0, z_tb1, z_tb2, z_tb3, z_tb4, z_tb5, z_tb6, z_tb7, z_tb8, z_tbl, z_tu0, z_tu1, z_tu2, z_i_62, z_i_63, z_i_86, z_i_88, z_l_Y, z_ui_62, z_ui_63, z_ui_86, z_ui_88, z_ul_Y, z_sz_Y, z_sw_Y, iI_nat, z_ix_t, z_at, Int.add_zero, Int.sub_zero, Int.zero_add, Int.mul_zero, ne_eq, Bool.false_eq_true, Bool.true_eq_false, reduceCtorEq, eq_self, and_true, true_and, and_false, false_and, and_self, not_true_eq_false, not_false_eq_true, decide_true, decide_false, ↓reduceIte, Int.reduceEq, Int.reduceNe, Int.reduceLT, Int.reduceLE, Int.reduceAdd, Int.reduceSub, Int.reduceMul, Int.reduceNeg, Nat.reduceAdd, Nat.reduceEqDiff, Nat.reduceBEq, ↓z_x_eq, z_g_t, z_bI_s, z_bL_s, z_bR_s, z_bV_s, Int.cast_ofNat_Int, beq_self_eq_true, Bool.and_true, Bool.true_and, Bool.and_self, Bool.or_true, Bool.true_or, Bool.false_and, Bool.and_false, Bool.false_or, Bool.or_false, Bool.not_false, Bool.not_true, if_true, if_false, ite_true, ite_false, z_up_eq, z_up_app, z_ro_eq, hf, q]
    exact ok_ret ⟨rfl, G', s, rfl, hu.1, hu.2.1, by have := hu.2.2.1; omega, hu.2.2.2⟩
  | n + 1, i, acc, G', s, h0, h, hu => by
    have ih := fun acc G' s1 => p_reach_l d T G hQ hk n (i + 1) acc G' s1 (by omega) (by omega)
    have m2 := hQ.1.1.2.2.1
    have q := (cw_h (u_cq hQ hu).1).2.2.1
    have e81 : G' 81 = G 81 := hu.1 81 (by omega) (by omega) (by omega) (by omega)
    rw [e81] at q
    have hf : (i < G 81 2) = True := eq_true (by omega)
    have e : z_bor (n + 1) i (fun n => !(k_had (G 81) (G 83) n)) acc = z_bor n (i + 1) (fun n => !(k_had (G 81) (G 83) n)) (cond (!(k_had (G 81) (G 83) i)) (i_or acc (i_shl 1 i)) acc) := rfl
    rw [e, e_Qu_outOfReach_4]
    simp -implicitDefEqProofs (disch := first | assumption | omega | rfl | (simp only [z_up_eq, z_up_app, ↓reduceIte, Nat.reduceEqDiff]; omega)) only [z_lit0, z_lit1, z_lit2, z_litl, iI_add, iI_sub, iI_mul, iI_neg, iI_and, iI_or, iI_xor, iI_shl, iI_shr, iI_ushr, iI_div, iI_b, iI_c, iI_i2l, lI_l2i, lI_add, lI_sub, lI_mul, lI_neg, lI_div, lI_or, lI_and, lI_shl, lI_shr, nI_iI, lg_lt0, lg_gt0, lg_eq0, i_ne0', l_ne0', iI_lt, iI_le, iI_eq, lI_lt, lI_le, lI_eq, zb_0, zb_fit, zb_fit0, zb_fit1, i_one_zero, i_w_in, z_tb0, z_tb1, z_tb2, z_tb3, z_tb4, z_tb5, z_tb6, z_tb7, z_tb8, z_tbl, z_tu0, z_tu1, z_tu2, z_i_62, z_i_63, z_i_86, z_i_88, z_l_Y, z_ui_62, z_ui_63, z_ui_86, z_ui_88, z_ul_Y, z_sz_Y, z_sw_Y, iI_nat, z_ix_t, z_at, Int.add_zero, Int.sub_zero, Int.zero_add, Int.mul_zero, ne_eq, Bool.false_eq_true, Bool.true_eq_false, reduceCtorEq, eq_self, and_true, true_and, and_false, false_and, and_self, not_true_eq_false, not_false_eq_true, decide_true, decide_false, ↓reduceIte, Int.reduceEq, Int.reduceNe, Int.reduceLT, Int.reduceLE, Int.reduceAdd, Int.reduceSub, Int.reduceMul, Int.reduceNeg, Nat.reduceAdd, Nat.reduceEqDiff, Nat.reduceBEq, ↓z_x_eq, z_g_t, z_bI_s, z_bL_s, z_bR_s, z_bV_s, Int.cast_ofNat_Int, beq_self_eq_true, Bool.and_true, Bool.true_and, Bool.and_self, Bool.or_true, Bool.true_or, Bool.false_and, Bool.and_false, Bool.false_or, Bool.or_false, Bool.not_false, Bool.not_true, if_true, if_false, ite_true, ite_false, z_up_eq, z_up_app, z_ro_eq, hf, q]
    refine ok_pI (p_had d T G G' s hQ hu (by omega) ⟨h0, by omega⟩) ?_
    rintro y τ ⟨rfl, G2, s1, rfl, hu2⟩
    refine ⟨_, rfl, ?_⟩
    cases k_had (G 81) (G 83) i
    · simp -implicitDefEqProofs (disch := first | assumption | omega | rfl | (simp only [z_up_eq, z_up_app, ↓reduceIte, Nat.reduceEqDiff]; omega)) only [z_lit0, z_lit1, z_lit2, z_litl, iI_add, iI_sub, iI_mul, iI_neg, iI_and, iI_or, iI_xor, iI_shl, iI_shr, iI_ushr, iI_div, iI_b, iI_c, iI_i2l, lI_l2i, lI_add, lI_sub, lI_mul, lI_neg, lI_div, lI_or, lI_and, lI_shl, lI_shr, nI_iI, lg_lt0, lg_gt0, lg_eq0, i_ne0', l_ne0', iI_lt, iI_le, iI_eq, lI_lt, lI_le, lI_eq, zb_0, zb_fit, zb_fit0, zb_fit1, i_one_zero, i_w_in, z_tb0, z_tb1, z_tb2, z_tb3, z_tb4, z_tb5, z_tb6, z_tb7, z_tb8, z_tbl, z_tu0, z_tu1, z_tu2, z_i_62, z_i_63, z_i_86, z_i_88, z_l_Y, z_ui_62, z_ui_63, z_ui_86, z_ui_88, z_ul_Y, z_sz_Y, z_sw_Y, iI_nat, z_ix_t, z_at, Int.add_zero, Int.sub_zero, Int.zero_add, Int.mul_zero, ne_eq, Bool.false_eq_true, Bool.true_eq_false, reduceCtorEq, eq_self, and_true, true_and, and_false, false_and, and_self, not_true_eq_false, not_false_eq_true, decide_true, decide_false, ↓reduceIte, Int.reduceEq, Int.reduceNe, Int.reduceLT, Int.reduceLE, Int.reduceAdd, Int.reduceSub, Int.reduceMul, Int.reduceNeg, Nat.reduceAdd, Nat.reduceEqDiff, Nat.reduceBEq, ↓z_x_eq, z_g_t, z_bI_s, z_bL_s, z_bR_s, z_bV_s, Int.cast_ofNat_Int, beq_self_eq_true, Bool.and_true, Bool.true_and, Bool.and_self, Bool.or_true, Bool.true_or, Bool.false_and, Bool.and_false, Bool.false_or, Bool.or_false, Bool.not_false, Bool.not_true, if_true, if_false, ite_true, ite_false, z_up_eq, z_up_app, z_ro_eq, zb_f]
      exact ih _ G2 s1 hu2
    · simp -implicitDefEqProofs (disch := first | assumption | omega | rfl | (simp only [z_up_eq, z_up_app, ↓reduceIte, Nat.reduceEqDiff]; omega)) only [z_lit0, z_lit1, z_lit2, z_litl, iI_add, iI_sub, iI_mul, iI_neg, iI_and, iI_or, iI_xor, iI_shl, iI_shr, iI_ushr, iI_div, iI_b, iI_c, iI_i2l, lI_l2i, lI_add, lI_sub, lI_mul, lI_neg, lI_div, lI_or, lI_and, lI_shl, lI_shr, nI_iI, lg_lt0, lg_gt0, lg_eq0, i_ne0', l_ne0', iI_lt, iI_le, iI_eq, lI_lt, lI_le, lI_eq, zb_0, zb_fit, zb_fit0, zb_fit1, i_one_zero, i_w_in, z_tb0, z_tb1, z_tb2, z_tb3, z_tb4, z_tb5, z_tb6, z_tb7, z_tb8, z_tbl, z_tu0, z_tu1, z_tu2, z_i_62, z_i_63, z_i_86, z_i_88, z_l_Y, z_ui_62, z_ui_63, z_ui_86, z_ui_88, z_ul_Y, z_sz_Y, z_sw_Y, iI_nat, z_ix_t, z_at, Int.add_zero, Int.sub_zero, Int.zero_add, Int.mul_zero, ne_eq, Bool.false_eq_true, Bool.true_eq_false, reduceCtorEq, eq_self, and_true, true_and, and_false, false_and, and_self, not_true_eq_false, not_false_eq_true, decide_true, decide_false, ↓reduceIte, Int.reduceEq, Int.reduceNe, Int.reduceLT, Int.reduceLE, Int.reduceAdd, Int.reduceSub, Int.reduceMul, Int.reduceNeg, Nat.reduceAdd, Nat.reduceEqDiff, Nat.reduceBEq, ↓z_x_eq, z_g_t, z_bI_s, z_bL_s, z_bR_s, z_bV_s, Int.cast_ofNat_Int, beq_self_eq_true, Bool.and_true, Bool.true_and, Bool.and_self, Bool.or_true, Bool.true_or, Bool.false_and, Bool.and_false, Bool.false_or, Bool.or_false, Bool.not_false, Bool.not_true, if_true, if_false, ite_true, ite_false, z_up_eq, z_up_app, z_ro_eq, zb_t]
      exact ih _ G2 s1 hu2
/-! the model's cannot -/
def n_in (A X : Int → Int) (hb us : Int) : Nat → Int → Int → Int
  | 0, _, acc => acc
  | n + 1, p, acc => n_in A X hb us n (p + 1) (i_and acc (m_falls (z_ro (z_ro A 8 us) (32 + 5 * p + 4) (m_oth (A (32 + 5 * p + 4)))) X (-1) hb))
def n_out (A X : Int → Int) (hb : Int) : Nat → Int → Int → Int
  | 0, _, acc => acc
  | n + 1, us, acc => n_out A X hb n (us + 1) (n_in A X hb us (A 1).toNat 0 (i_and acc (m_falls (z_ro A 8 us) X (-1) hb)))
theorem p_mcan_in (d : Nat) (T : ZT) (G : ZG) {us had : Int} (hQ : m_q G) (hh : G 80 24 = -1) (hus : 0 ≤ us ∧ us < 16) (P : ZV → ZM → Prop) (R : Int) (next : ∀ s, z_ok (z_w d_M_cannot (z_call (d + 8)) 21 [some (vr 80), some (vi (iI had)), some (vi (iI R)), some (vi (iI (us + 1))), none, none] [] (z_Y T (z_up G 81 (z_ro (G 81) 8 us)) s)) P) : ∀ (n : Nat) (p acc : Int) (s : ZG × ZG), 0 ≤ p → p + n = G 81 1 → n_in (G 81) (G 83) (G 80 25) us n p acc = R → z_ok (z_w d_M_cannot (z_call (d + 8)) 45 [some (vr 80), some (vi (iI had)), some (vi (iI acc)), some (vi (iI us)), some (vi (iI p)), none] [] (z_Y T (z_up G 81 (z_ro (G 81) 8 us)) s)) P
  | 0, p, acc, s, h0, h, hR => by
    have m1 := hQ.1.2.1
    have hf : (p < G 81 1) = False := eq_false (by omega)
    have r1 : z_ro (G 81) 8 us 1 = G 81 1 := z_ro_ne _ _ (by omega)
    have hR' : acc = R := hR
    rw [e_M_cannot_45, hR']
    simp -implicitDefEqProofs (disch := first | assumption | omega | rfl | (simp only [z_up_eq, z_up_app, ↓reduceIte, Nat.reduceEqDiff]; omega)) only [z_lit0, z_lit1, z_lit2, z_litl, iI_add, iI_sub, iI_mul, iI_neg, iI_and, iI_or, iI_xor, iI_shl, iI_shr, iI_ushr, iI_div, iI_b, iI_c, iI_i2l, lI_l2i, lI_add, lI_sub, lI_mul, lI_neg, lI_div, lI_or, lI_and, lI_shl, lI_shr, nI_iI, lg_lt0, lg_gt0, lg_eq0, i_ne0', l_ne0', iI_lt, iI_le, iI_eq, lI_lt, lI_le, lI_eq, zb_0, zb_fit, zb_fit0, zb_fit1, i_one_zero, i_w_in, z_tb0, z_tb1, z_tb2, z_tb3, z_tb4, z_tb5, z_tb6, z_tb7, z_tb8, z_tbl, z_tu0, z_tu1, z_tu2, z_i_62, z_i_63, z_i_86, z_i_88, z_l_Y, z_ui_62, z_ui_63, z_ui_86, z_ui_88, z_ul_Y, z_sz_Y, z_sw_Y, iI_nat, z_ix_t, z_at, Int.add_zero, Int.sub_zero, Int.zero_add, Int.mul_zero, ne_eq, Bool.false_eq_true, Bool.true_eq_false, reduceCtorEq, eq_self, and_true, true_and, and_false, false_and, and_self, not_true_eq_false, not_false_eq_true, decide_true, decide_false, ↓reduceIte, Int.reduceEq, Int.reduceNe, Int.reduceLT, Int.reduceLE, Int.reduceAdd, Int.reduceSub, Int.reduceMul, Int.reduceNeg, Nat.reduceAdd, Nat.reduceEqDiff, Nat.reduceBEq, ↓z_x_eq, z_g_t, z_bI_s, z_bL_s, z_bR_s, z_bV_s, Int.cast_ofNat_Int, beq_self_eq_true, Bool.and_true, Bool.true_and, Bool.and_self, Bool.or_true, Bool.true_or, Bool.false_and, Bool.and_false, Bool.false_or, Bool.or_false, Bool.not_false, Bool.not_true, if_true, if_false, ite_true, ite_false, z_up_eq, z_up_app, z_ro_eq, hf, r1]
    exact next s
  | n + 1, p, acc, s, h0, h, hR => by
    have m1 := hQ.1.2.1
    have hf : (p < G 81 1) = True := eq_true (by omega)
    have r1 : z_ro (G 81) 8 us 1 = G 81 1 := z_ro_ne _ _ (by omega)
    have r4 : z_ro (G 81) 8 us (32 + 5 * p + 4) = G 81 (32 + 5 * p + 4) := z_ro_ne _ _ (by omega)
    have hg := ag_u (v := us) (ag_id (G 81))
    have hB := ag_ush hQ.1 (v := us) ⟨hus.1, by omega⟩
    have hq1 := ag_q hQ hg hB
    have hp1 : 0 ≤ p ∧ p < z_ro (G 81) 8 us 1 := ⟨h0, by rw [r1]; omega⟩
    have pt := p_turned (d + 6) T (z_up G 81 (z_ro (G 81) 8 us)) s (p := p) (by rw [z_up_eq]; exact hB) (by rw [z_up_eq]; exact hp1)
    rw [z_up_eq, r4, z_up_up] at pt
    have ho := m_oth_in (G 81 (32 + 5 * p + 4))
    have hB2 := ag_how hB hp1 (v := m_oth (G 81 (32 + 5 * p + 4))) (by omega)
    have hg2 := ag_p (v := m_oth (G 81 (32 + 5 * p + 4))) hg (p := p) (w := 4) ⟨h0, by omega⟩ (by omega)
    have pf := fun s => p_mfalls d T _ s (ag_q hQ hg2 hB2)
    have pf' : ∀ s, z_ok (z_call (d + 8) 218 [vr 80] (z_Y T (z_up G 81 (z_ro (z_ro (G 81) 8 us) (32 + 5 * p + 4) (m_oth (G 81 (32 + 5 * p + 4))))) s)) (z_q T (z_up G 81 (z_ro (z_ro (G 81) 8 us) (32 + 5 * p + 4) (m_oth (G 81 (32 + 5 * p + 4))))) (vi (iI (m_falls (z_ro (z_ro (G 81) 8 us) (32 + 5 * p + 4) (m_oth (G 81 (32 + 5 * p + 4)))) (G 83) (-1) (G 80 25))))) := by
      intro s
      have := pf s
      rw [z_up_eq, z_up_ne G _ (show 83 ≠ 81 by omega), z_up_ne G _ (show 80 ≠ 81 by omega), hh] at this
      exact this
    have back : z_ro (z_ro (G 81) 8 us) (32 + 5 * p + 4) (G 81 (32 + 5 * p + 4)) = z_ro (G 81) 8 us := by
      have := z_ro_id (z_ro (G 81) 8 us) (32 + 5 * p + 4)
      rw [r4] at this; exact this
    rw [e_M_cannot_45]
    simp -implicitDefEqProofs (disch := first | assumption | omega | rfl | (simp only [z_up_eq, z_up_app, ↓reduceIte, Nat.reduceEqDiff]; omega)) only [z_lit0, z_lit1, z_lit2, z_litl, iI_add, iI_sub, iI_mul, iI_neg, iI_and, iI_or, iI_xor, iI_shl, iI_shr, iI_ushr, iI_div, iI_b, iI_c, iI_i2l, lI_l2i, lI_add, lI_sub, lI_mul, lI_neg, lI_div, lI_or, lI_and, lI_shl, lI_shr, nI_iI, lg_lt0, lg_gt0, lg_eq0, i_ne0', l_ne0', iI_lt, iI_le, iI_eq, lI_lt, lI_le, lI_eq, zb_0, zb_fit, zb_fit0, zb_fit1, i_one_zero, i_w_in, z_tb0, z_tb1, z_tb2, z_tb3, z_tb4, z_tb5, z_tb6, z_tb7, z_tb8, z_tbl, z_tu0, z_tu1, z_tu2, z_i_62, z_i_63, z_i_86, z_i_88, z_l_Y, z_ui_62, z_ui_63, z_ui_86, z_ui_88, z_ul_Y, z_sz_Y, z_sw_Y, iI_nat, z_ix_t, z_at, Int.add_zero, Int.sub_zero, Int.zero_add, Int.mul_zero, ne_eq, Bool.false_eq_true, Bool.true_eq_false, reduceCtorEq, eq_self, and_true, true_and, and_false, false_and, and_self, not_true_eq_false, not_false_eq_true, decide_true, decide_false, ↓reduceIte, Int.reduceEq, Int.reduceNe, Int.reduceLT, Int.reduceLE, Int.reduceAdd, Int.reduceSub, Int.reduceMul, Int.reduceNeg, Nat.reduceAdd, Nat.reduceEqDiff, Nat.reduceBEq, ↓z_x_eq, z_g_t, z_bI_s, z_bL_s, z_bR_s, z_bV_s, Int.cast_ofNat_Int, beq_self_eq_true, Bool.and_true, Bool.true_and, Bool.and_self, Bool.or_true, Bool.true_or, Bool.false_and, Bool.and_false, Bool.false_or, Bool.or_false, Bool.not_false, Bool.not_true, if_true, if_false, ite_true, ite_false, z_up_eq, z_up_app, z_ro_eq, hf, r1, pt]
    refine ok_cI (pf' s) (fun s1 => ?_)
    simp -implicitDefEqProofs (disch := first | assumption | omega | rfl | (simp only [z_up_eq, z_up_app, ↓reduceIte, Nat.reduceEqDiff]; omega)) only [z_lit0, z_lit1, z_lit2, z_litl, iI_add, iI_sub, iI_mul, iI_neg, iI_and, iI_or, iI_xor, iI_shl, iI_shr, iI_ushr, iI_div, iI_b, iI_c, iI_i2l, lI_l2i, lI_add, lI_sub, lI_mul, lI_neg, lI_div, lI_or, lI_and, lI_shl, lI_shr, nI_iI, lg_lt0, lg_gt0, lg_eq0, i_ne0', l_ne0', iI_lt, iI_le, iI_eq, lI_lt, lI_le, lI_eq, zb_0, zb_fit, zb_fit0, zb_fit1, i_one_zero, i_w_in, z_tb0, z_tb1, z_tb2, z_tb3, z_tb4, z_tb5, z_tb6, z_tb7, z_tb8, z_tbl, z_tu0, z_tu1, z_tu2, z_i_62, z_i_63, z_i_86, z_i_88, z_l_Y, z_ui_62, z_ui_63, z_ui_86, z_ui_88, z_ul_Y, z_sz_Y, z_sw_Y, iI_nat, z_ix_t, z_at, Int.add_zero, Int.sub_zero, Int.zero_add, Int.mul_zero, ne_eq, Bool.false_eq_true, Bool.true_eq_false, reduceCtorEq, eq_self, and_true, true_and, and_false, false_and, and_self, not_true_eq_false, not_false_eq_true, decide_true, decide_false, ↓reduceIte, Int.reduceEq, Int.reduceNe, Int.reduceLT, Int.reduceLE, Int.reduceAdd, Int.reduceSub, Int.reduceMul, Int.reduceNeg, Nat.reduceAdd, Nat.reduceEqDiff, Nat.reduceBEq, ↓z_x_eq, z_g_t, z_bI_s, z_bL_s, z_bR_s, z_bV_s, Int.cast_ofNat_Int, beq_self_eq_true, Bool.and_true, Bool.true_and, Bool.and_self, Bool.or_true, Bool.true_or, Bool.false_and, Bool.and_false, Bool.false_or, Bool.or_false, Bool.not_false, Bool.not_true, if_true, if_false, ite_true, ite_false, z_up_eq, z_up_app, z_ro_eq, p_set, z_up_up, z_ro_ro, back]
    exact p_mcan_in d T G hQ hh hus P R next n (p + 1) _ s1 (by omega) (by omega) hR
theorem p_mcan_out (d : Nat) (T : ZT) (G : ZG) (hQ : m_q G) (hh : G 80 24 = -1) : ∀ (n : Nat) (us acc v : Int) (s : ZG × ZG), 0 ≤ us → us + n = 16 → z_ok (z_w d_M_cannot (z_call (d + 8)) 21 [some (vr 80), some (vi (iI (G 81 8))), some (vi (iI acc)), some (vi (iI us)), none, none] [] (z_Y T (z_up G 81 (z_ro (G 81) 8 v)) s)) (z_q T G (vi (iI (n_out (G 81) (G 83) (G 80 25) n us acc))))
  | 0, us, acc, v, s, h0, h => by
    have hf : (us < 16) = False := eq_false (by omega)
    have back : z_up G 81 (z_ro (G 81) 8 (G 81 8)) = G := by rw [z_ro_id, z_up_id]
    rw [e_M_cannot_21]
    simp -implicitDefEqProofs (disch := first | assumption | omega | rfl | (simp only [z_up_eq, z_up_app, ↓reduceIte, Nat.reduceEqDiff]; omega)) only [z_lit0, z_lit1, z_lit2, z_litl, iI_add, iI_sub, iI_mul, iI_neg, iI_and, iI_or, iI_xor, iI_shl, iI_shr, iI_ushr, iI_div, iI_b, iI_c, iI_i2l, lI_l2i, lI_add, lI_sub, lI_mul, lI_neg, lI_div, lI_or, lI_and, lI_shl, lI_shr, nI_iI, lg_lt0, lg_gt0, lg_eq0, i_ne0', l_ne0', iI_lt, iI_le, iI_eq, lI_lt, lI_le, lI_eq, zb_0, zb_fit, zb_fit0, zb_fit1, i_one_zero, i_w_in, z_tb0, z_tb1, z_tb2, z_tb3, z_tb4, z_tb5, z_tb6, z_tb7, z_tb8, z_tbl, z_tu0, z_tu1, z_tu2, z_i_62, z_i_63, z_i_86, z_i_88, z_l_Y, z_ui_62, z_ui_63, z_ui_86, z_ui_88, z_ul_Y, z_sz_Y, z_sw_Y, iI_nat, z_ix_t, z_at, Int.add_zero, Int.sub_zero, Int.zero_add, Int.mul_zero, ne_eq, Bool.false_eq_true, Bool.true_eq_false, reduceCtorEq, eq_self, and_true, true_and, and_false, false_and, and_self, not_true_eq_false, not_false_eq_true, decide_true, decide_false, ↓reduceIte, Int.reduceEq, Int.reduceNe, Int.reduceLT, Int.reduceLE, Int.reduceAdd, Int.reduceSub, Int.reduceMul, Int.reduceNeg, Nat.reduceAdd, Nat.reduceEqDiff, Nat.reduceBEq, ↓z_x_eq, z_g_t, z_bI_s, z_bL_s, z_bR_s, z_bV_s, Int.cast_ofNat_Int, beq_self_eq_true, Bool.and_true, Bool.true_and, Bool.and_self, Bool.or_true, Bool.true_or, Bool.false_and, Bool.and_false, Bool.false_or, Bool.or_false, Bool.not_false, Bool.not_true, if_true, if_false, ite_true, ite_false, z_up_eq, z_up_app, z_ro_eq, hf, z_up_up, z_ro_ro, back]
    exact ok_q
  | n + 1, us, acc, v, s, h0, h => by
    have m1 := hQ.1.2.1
    have hf : (us < 16) = True := eq_true (by omega)
    have hg := ag_u (v := us) (ag_id (G 81))
    have hB := ag_ush hQ.1 (v := us) ⟨h0, by omega⟩
    have pf := fun s => p_mfalls d T _ s (ag_q hQ hg hB)
    have pf' : ∀ s, z_ok (z_call (d + 8) 218 [vr 80] (z_Y T (z_up G 81 (z_ro (G 81) 8 us)) s)) (z_q T (z_up G 81 (z_ro (G 81) 8 us)) (vi (iI (m_falls (z_ro (G 81) 8 us) (G 83) (-1) (G 80 25))))) := by
      intro s
      have := pf s
      rw [z_up_eq, z_up_ne G _ (show 83 ≠ 81 by omega), z_up_ne G _ (show 80 ≠ 81 by omega), hh] at this
      exact this
    rw [e_M_cannot_21]
    simp -implicitDefEqProofs (disch := first | assumption | omega | rfl | (simp only [z_up_eq, z_up_app, ↓reduceIte, Nat.reduceEqDiff]; omega)) only [z_lit0, z_lit1, z_lit2, z_litl, iI_add, iI_sub, iI_mul, iI_neg, iI_and, iI_or, iI_xor, iI_shl, iI_shr, iI_ushr, iI_div, iI_b, iI_c, iI_i2l, lI_l2i, lI_add, lI_sub, lI_mul, lI_neg, lI_div, lI_or, lI_and, lI_shl, lI_shr, nI_iI, lg_lt0, lg_gt0, lg_eq0, i_ne0', l_ne0', iI_lt, iI_le, iI_eq, lI_lt, lI_le, lI_eq, zb_0, zb_fit, zb_fit0, zb_fit1, i_one_zero, i_w_in, z_tb0, z_tb1, z_tb2, z_tb3, z_tb4, z_tb5, z_tb6, z_tb7, z_tb8, z_tbl, z_tu0, z_tu1, z_tu2, z_i_62, z_i_63, z_i_86, z_i_88, z_l_Y, z_ui_62, z_ui_63, z_ui_86, z_ui_88, z_ul_Y, z_sz_Y, z_sw_Y, iI_nat, z_ix_t, z_at, Int.add_zero, Int.sub_zero, Int.zero_add, Int.mul_zero, ne_eq, Bool.false_eq_true, Bool.true_eq_false, reduceCtorEq, eq_self, and_true, true_and, and_false, false_and, and_self, not_true_eq_false, not_false_eq_true, decide_true, decide_false, ↓reduceIte, Int.reduceEq, Int.reduceNe, Int.reduceLT, Int.reduceLE, Int.reduceAdd, Int.reduceSub, Int.reduceMul, Int.reduceNeg, Nat.reduceAdd, Nat.reduceEqDiff, Nat.reduceBEq, ↓z_x_eq, z_g_t, z_bI_s, z_bL_s, z_bR_s, z_bV_s, Int.cast_ofNat_Int, beq_self_eq_true, Bool.and_true, Bool.true_and, Bool.and_self, Bool.or_true, Bool.true_or, Bool.false_and, Bool.and_false, Bool.false_or, Bool.or_false, Bool.not_false, Bool.not_true, if_true, if_false, ite_true, ite_false, z_up_eq, z_up_app, z_ro_eq, hf, z_up_up, z_ro_ro]
    refine ok_cI (pf' s) (fun s1 => ?_)
    simp -implicitDefEqProofs (disch := first | assumption | omega | rfl | (simp only [z_up_eq, z_up_app, ↓reduceIte, Nat.reduceEqDiff]; omega)) only [z_lit0, z_lit1, z_lit2, z_litl, iI_add, iI_sub, iI_mul, iI_neg, iI_and, iI_or, iI_xor, iI_shl, iI_shr, iI_ushr, iI_div, iI_b, iI_c, iI_i2l, lI_l2i, lI_add, lI_sub, lI_mul, lI_neg, lI_div, lI_or, lI_and, lI_shl, lI_shr, nI_iI, lg_lt0, lg_gt0, lg_eq0, i_ne0', l_ne0', iI_lt, iI_le, iI_eq, lI_lt, lI_le, lI_eq, zb_0, zb_fit, zb_fit0, zb_fit1, i_one_zero, i_w_in, z_tb0, z_tb1, z_tb2, z_tb3, z_tb4, z_tb5, z_tb6, z_tb7, z_tb8, z_tbl, z_tu0, z_tu1, z_tu2, z_i_62, z_i_63, z_i_86, z_i_88, z_l_Y, z_ui_62, z_ui_63, z_ui_86, z_ui_88, z_ul_Y, z_sz_Y, z_sw_Y, iI_nat, z_ix_t, z_at, Int.add_zero, Int.sub_zero, Int.zero_add, Int.mul_zero, ne_eq, Bool.false_eq_true, Bool.true_eq_false, reduceCtorEq, eq_self, and_true, true_and, and_false, false_and, and_self, not_true_eq_false, not_false_eq_true, decide_true, decide_false, ↓reduceIte, Int.reduceEq, Int.reduceNe, Int.reduceLT, Int.reduceLE, Int.reduceAdd, Int.reduceSub, Int.reduceMul, Int.reduceNeg, Nat.reduceAdd, Nat.reduceEqDiff, Nat.reduceBEq, ↓z_x_eq, z_g_t, z_bI_s, z_bL_s, z_bR_s, z_bV_s, Int.cast_ofNat_Int, beq_self_eq_true, Bool.and_true, Bool.true_and, Bool.and_self, Bool.or_true, Bool.true_or, Bool.false_and, Bool.and_false, Bool.false_or, Bool.or_false, Bool.not_false, Bool.not_true, if_true, if_false, ite_true, ite_false, z_up_eq, z_up_app, z_ro_eq]
    exact p_mcan_in d T G hQ hh ⟨h0, by omega⟩ _ _ (fun s => p_mcan_out d T G hQ hh n (us + 1) _ us s (by omega) (by omega)) (G 81 1).toNat 0 _ s1 (by omega) (by omega) rfl
theorem n_in_has {A X : Int → Int} {hb us k : Int} (hk : 0 ≤ k ∧ k < 18) : ∀ (n : Nat) (p acc : Int), i_has (n_in A X hb us n p acc) k = (i_has acc k && z_all n p (fun p => i_has (m_falls (z_ro (z_ro A 8 us) (32 + 5 * p + 4) (m_oth (A (32 + 5 * p + 4)))) X (-1) hb) k))
  | 0, _, acc => by show i_has acc k = (i_has acc k && true); rw [Bool.and_true]
  | n + 1, p, acc => by
    show i_has (n_in A X hb us n (p + 1) (i_and acc _)) k = (i_has acc k && (i_has _ k && z_all n (p + 1) _))
    rw [n_in_has hk n (p + 1), i_and_has hk, Bool.and_assoc]
theorem n_out_has {A X : Int → Int} {hb k : Int} (hk : 0 ≤ k ∧ k < 18) : ∀ (n : Nat) (us acc : Int), i_has (n_out A X hb n us acc) k = (i_has acc k && z_all n us (fun us => i_has (m_falls (z_ro A 8 us) X (-1) hb) k && z_all (A 1).toNat 0 (fun p => i_has (m_falls (z_ro (z_ro A 8 us) (32 + 5 * p + 4) (m_oth (A (32 + 5 * p + 4)))) X (-1) hb) k)))
  | 0, _, acc => by show i_has acc k = (i_has acc k && true); rw [Bool.and_true]
  | n + 1, us, acc => by
    show i_has (n_out A X hb n (us + 1) (n_in A X hb us (A 1).toNat 0 (i_and acc _))) k = (i_has acc k && ((i_has _ k && _) && z_all n (us + 1) _))
    rw [n_out_has hk n (us + 1), n_in_has hk, i_and_has hk]
    simp only [Bool.and_assoc]
theorem i_and_lt {a b : Int} {n : Nat} (hn : n ≤ 17) (ha : 0 ≤ a ∧ a < 2 ^ n) : 0 ≤ i_and a b ∧ i_and a b < 2 ^ n := by
  have h2 : 2 ^ n ≤ 2 ^ 17 := Nat.pow_le_pow_right (by omega) hn
  have h4 : ((2 ^ n : Nat) : Int) = 2 ^ n := by simp
  have h1 : (iI (i_and a b)).toBitVec.toNat < 2 ^ n := by
    apply Nat.lt_pow_two_of_testBit
    intro k hk
    have p : 2 ^ n ≤ 2 ^ k := Nat.pow_le_pow_right (by omega) hk
    have f : (iI a).toBitVec.getLsbD k = false := by
      rw [← BitVec.testBit_toNat, i_toNat ⟨by omega, by omega⟩]
      exact Nat.testBit_lt_two_pow (by omega)
    rw [BitVec.testBit_toNat, i_and_bv, BitVec.getLsbD_and, f]; rfl
  have h3 := i_v_toNat (i_and_in a b) (by omega)
  constructor
  · omega
  · rw [← h4]; omega
theorem n_in_lt {A X : Int → Int} {hb us : Int} {m : Nat} (hm : m ≤ 17) : ∀ (n : Nat) (p acc : Int), 0 ≤ acc ∧ acc < 2 ^ m → 0 ≤ n_in A X hb us n p acc ∧ n_in A X hb us n p acc < 2 ^ m
  | 0, _, _, h => h
  | n + 1, p, acc, h => n_in_lt hm n (p + 1) _ (i_and_lt hm h)
theorem n_out_lt {A X : Int → Int} {hb : Int} {m : Nat} (hm : m ≤ 17) : ∀ (n : Nat) (us acc : Int), 0 ≤ acc ∧ acc < 2 ^ m → 0 ≤ n_out A X hb n us acc ∧ n_out A X hb n us acc < 2 ^ m
  | 0, _, _, h => h
  | n + 1, us, acc, h => n_out_lt hm n (us + 1) _ (n_in_lt hm _ _ _ (i_and_lt hm h))
theorem i_has_full : ∀ n : Nat, n ≤ 12 → ∀ k : Nat, k < n → i_has ((2 : Int) ^ n - 1) k = true := by decide +kernel
theorem m_falls_has {A X : Int → Int} {hb k : Int} (hM : m_ok A) (hk : 0 ≤ k ∧ k < A 2) : i_has (m_falls A X (-1) hb) k = !(m_holds A X (A 6) k (m_air0 A X (A (82 + 2 * k))) (A (82 + 2 * k))) := by
  have m2 := hM.2.2.1
  unfold m_falls
  rw [z_bor_has _ (by omega) (by omega) ⟨hk.1, by omega⟩, i_has_0 ⟨hk.1, by omega⟩, decide_eq_true (by omega)]
  unfold m_held
  rw [m_air_0, Int.add_zero]; rfl
theorem k_same {A X : Int → Int} {hb : Int} (hM : m_ok A) : n_out A X hb 16 0 (i_shl 1 (A 2) - 1) = z_bor (A 2).toNat 0 (fun n => !(k_had A X n)) 0 := by
  have m1 := hM.2.1
  have m2 := hM.2.2.1
  have p0 : (0 : Int) < 2 ^ (A 2).toNat := Int.pow_pos (by omega)
  refine i_bits_eq (n := (A 2).toNat) (by omega) (n_out_lt (by omega) 16 0 _ ?_) (z_bor_lt _ (by omega)) (fun k a b => ?_)
  · rw [i_shl_pow m2]; omega
  · have kk : 0 ≤ k ∧ k < A 2 := ⟨a, by omega⟩
    have full : i_has (i_shl 1 (A 2) - 1) k = true := by
      have := i_has_full (A 2).toNat (by omega) k.toNat (by omega)
      rw [show ((k.toNat : Nat) : Int) = k by omega] at this
      rw [i_shl_pow m2]; exact this
    rw [n_out_has ⟨a, by omega⟩, full, Bool.true_and, z_bor_has _ (by omega) (by omega) ⟨a, by omega⟩, i_has_0 ⟨a, by omega⟩, decide_eq_true (by omega), Bool.false_or, Bool.true_and]
    have f0 : ∀ us, 0 ≤ us → us < 16 → i_has (m_falls (z_ro A 8 us) X (-1) hb) k = !(k_h0 A X k us) := by
      intro us u1 u2
      have hg := ag_u (v := us) (ag_id A)
      rw [m_falls_has (ag_ush hM (by omega)) (by rw [hg.1 2 (by omega) (by omega)]; exact kk), ag_holds hg a, hg.1 6 (by omega) (by omega), hg.1 (82 + 2 * k) (by omega) (by omega)]; rfl
    have f1 : ∀ us p, 0 ≤ us → us < 16 → 0 ≤ p → p < A 1 → i_has (m_falls (z_ro (z_ro A 8 us) (32 + 5 * p + 4) (m_oth (A (32 + 5 * p + 4)))) X (-1) hb) k = !(m_holds A X (A 6) k (m_airo (z_ro A 8 us) X p (A (82 + 2 * k))) (A (82 + 2 * k))) := by
      intro us p u1 u2 p1 p2
      have hg := ag_u (v := us) (ag_id A)
      have hB := ag_ush hM (v := us) (by omega)
      have r1 : z_ro A 8 us 1 = A 1 := z_ro_ne _ _ (by omega)
      have r4 : z_ro A 8 us (32 + 5 * p + 4) = A (32 + 5 * p + 4) := z_ro_ne _ _ (by omega)
      have ho := m_oth_in (A (32 + 5 * p + 4))
      have hp' : 0 ≤ p ∧ p < z_ro A 8 us 1 := ⟨p1, by rw [r1]; exact p2⟩
      have hg2 := ag_p (v := m_oth (A (32 + 5 * p + 4))) hg (p := p) (w := 4) ⟨p1, by omega⟩ (by omega)
      have hB2 := ag_how hB hp' (v := m_oth (A (32 + 5 * p + 4))) (by omega)
      rw [m_falls_has hB2 (by rw [hg2.1 2 (by omega) (by omega)]; exact kk), ag_holds hg2 a, hg2.1 6 (by omega) (by omega), hg2.1 (82 + 2 * k) (by omega) (by omega), ag_air1 hB hp' (by omega)]
      unfold m_airo
      rw [r4]
    unfold k_had
    rw [Bool.eq_iff_iff, z_all_iff, Bool.not_eq_true', Bool.or_eq_false_iff]
    have anyf : ∀ (P : Int → Bool) (n : Nat), z_any n 0 P = false ↔ ∀ j, 0 ≤ j → j < (n : Int) → P j = false := by
      intro P n
      constructor
      · intro h j j1 j2
        cases hp : P j with
        | false => rfl
        | true => rw [(z_any_iff n 0).mpr ⟨j, j1, by omega, hp⟩] at h; cases h
      · intro h
        cases hz : z_any n 0 P with
        | false => rfl
        | true =>
          obtain ⟨j, j1, j2, j3⟩ := (z_any_iff n 0).mp hz
          rw [h j j1 (by omega)] at j3; cases j3
    rw [anyf, anyf]
    constructor
    · intro h
      refine ⟨fun us u1 u2 => ?_, fun us u1 u2 => ?_⟩
      · have := h us u1 (by omega)
        rw [Bool.and_eq_true, f0 us u1 (by omega)] at this
        cases hk0 : k_h0 A X k us with
        | false => rfl
        | true => rw [hk0] at this; cases this.1
      · rw [anyf]
        intro p p1 p2
        have := (Bool.and_eq_true _ _ ▸ h us u1 (by omega)).2
        rw [z_all_iff] at this
        have t := this p p1 (by omega)
        rw [f1 us p u1 (by omega) p1 (by omega)] at t
        unfold k_h1
        cases hm : m_holds A X (A 6) k (m_airo (z_ro A 8 us) X p (A (82 + 2 * k))) (A (82 + 2 * k)) with
        | false => rw [Bool.and_false]
        | true => rw [hm] at t; cases t
    · rintro ⟨h0, h1⟩ us u1 u2
      have a0 := h0 us u1 (by omega)
      have a1 := h1 us u1 (by omega)
      rw [anyf] at a1
      rw [Bool.and_eq_true, f0 us u1 (by omega), a0]
      refine ⟨rfl, ?_⟩
      rw [z_all_iff]
      intro p p1 p2
      rw [f1 us p u1 (by omega) p1 (by omega)]
      have t := a1 p p1 (by omega)
      unfold k_h1 at t
      by_cases c : A (32 + 5 * p + 3) = -1
      · have e : m_airo (z_ro A 8 us) X p (A (82 + 2 * k)) = m_air0 (z_ro A 8 us) X (A (82 + 2 * k)) := by
          unfold m_airo
          rw [z_ro_ne _ _ (show 32 + 5 * p + 3 ≠ 8 by omega), c]
          have z : ∀ hw, t_breath (z_ro A 8 us) X p (A (82 + 2 * k)) (-1) hw (z_ro A 8 us 8) (z_ro A 8 us (32 + 5 * p + 2)) = 0 := fun hw => by unfold t_breath; rw [if_pos (Or.inl rfl)]
          rw [z, z]; omega
        rw [e]
        have a0' : m_holds A X (A 6) k (m_air0 (z_ro A 8 us) X (A (82 + 2 * k))) (A (82 + 2 * k)) = false := a0
        rw [a0']; rfl
      · rw [decide_eq_true c, Bool.true_and] at t
        rw [t]; rfl
theorem t_cannot (d : Nat) {S0 : ZG} {c : Int} {T : ZT} {G : ZG} (h : z_I S0 c T G) (hc : c < 600) : z_pwr S0 c T G (fun σ => z_call (d + 9) 263 [vr 10] σ) (fun σ => z_call (d + 10) 264 [vr 80] σ) := by
  have hC := h.1
  have m2 := hC.1.2.2.1
  have ak := h.2.2.2.2.2.2.2.2.2.1
  have c600 := h.2.2.2.2.2.2.2.2.2.2.2.2
  refine pr_mid (vi (iI (z_bor (G 81 2).toNat 0 (fun n => !(k_had (G 81) (G 83) n)) 0))) (fun G1 => u_st G G1 12) (fun s => ?_) ?_
  · rw [e_B_cannot]
    simp -implicitDefEqProofs (disch := first | assumption | omega | rfl | (simp only [z_up_eq, z_up_app, ↓reduceIte, Nat.reduceEqDiff]; omega)) only [z_lit0, z_lit1, z_lit2, z_litl, iI_add, iI_sub, iI_mul, iI_neg, iI_and, iI_or, iI_xor, iI_shl, iI_shr, iI_ushr, iI_div, iI_b, iI_c, iI_i2l, lI_l2i, lI_add, lI_sub, lI_mul, lI_neg, lI_div, lI_or, lI_and, lI_shl, lI_shr, nI_iI, lg_lt0, lg_gt0, lg_eq0, i_ne0', l_ne0', iI_lt, iI_le, iI_eq, lI_lt, lI_le, lI_eq, zb_0, zb_fit, zb_fit0, zb_fit1, i_one_zero, i_w_in, z_tb0, z_tb1, z_tb2, z_tb3, z_tb4, z_tb5, z_tb6, z_tb7, z_tb8, z_tbl, z_tu0, z_tu1, z_tu2, z_i_62, z_i_63, z_i_86, z_i_88, z_l_Y, z_ui_62, z_ui_63, z_ui_86, z_ui_88, z_ul_Y, z_sz_Y, z_sw_Y, iI_nat, z_ix_t, z_at, Int.add_zero, Int.sub_zero, Int.zero_add, Int.mul_zero, ne_eq, Bool.false_eq_true, Bool.true_eq_false, reduceCtorEq, eq_self, and_true, true_and, and_false, false_and, and_self, not_true_eq_false, not_false_eq_true, decide_true, decide_false, ↓reduceIte, Int.reduceEq, Int.reduceNe, Int.reduceLT, Int.reduceLE, Int.reduceAdd, Int.reduceSub, Int.reduceMul, Int.reduceNeg, Nat.reduceAdd, Nat.reduceEqDiff, Nat.reduceBEq, ↓z_x_eq, z_g_t, z_bI_s, z_bL_s, z_bR_s, z_bV_s, Int.cast_ofNat_Int, beq_self_eq_true, Bool.and_true, Bool.true_and, Bool.and_self, Bool.or_true, Bool.true_or, Bool.false_and, Bool.and_false, Bool.false_or, Bool.or_false, Bool.not_false, Bool.not_true, if_true, if_false, ite_true, ite_false, z_up_eq, z_up_app, z_ro_eq, e_Qu_outOfReach]
    refine ok_pI (p_reach_l d T G (I_cq h) (by have := ak.2.1; omega) (G 81 2).toNat 0 0 G s (by omega) (by omega) (u_id ak)) ?_
    rintro y τ ⟨rfl, G2, s1, rfl, hu⟩
    exact ⟨_, rfl, ok_ret ⟨rfl, G2, s1, rfl, hu⟩⟩
  · intro G1 s1 hu
    have e81 : G1 81 = G 81 := hu.1 81 (by omega) (by omega) (by omega) (by omega)
    have e83 : G1 83 = G 83 := hu.1 83 (by omega) (by omega) (by omega) (by omega)
    have e80 : G1 80 = G 80 := hu.1 80 (by omega) (by omega) (by omega) (by omega)
    have hI : z_I S0 (c + 1) T G1 := I_q h hc (fun r a => hu.1 r (by omega) (by omega) (by omega) (by omega)) (by rw [e80]; exact ⟨rfl, rfl, rfl, h.2.2.2.2.2.2.1.1, h.2.2.2.2.2.2.1.2⟩) ⟨hu.2.1, by have := hu.2.2.1; have := ak.2.1; omega, hu.2.2.2⟩
    have hQ1 : m_q G1 := by unfold m_q; rw [e81, e83, e80]; exact I_mq h
    have back : z_up G1 81 (z_ro (G1 81) 8 (G1 81 8)) = G1 := by rw [z_ro_id, z_up_id]
    have w := p_mcan_out (d + 1) T G1 hQ1 (by rw [e80]; exact I_hic h) 16 0 (i_shl 1 (G1 81 2) - 1) (G1 81 8) s1 (by omega) (by omega)
    rw [back, e81, e83, e80, k_same hC.1] at w
    rw [e_M_cannot]
    simp -implicitDefEqProofs (disch := first | assumption | omega | rfl | (simp only [z_up_eq, z_up_app, ↓reduceIte, Nat.reduceEqDiff]; omega)) only [z_lit0, z_lit1, z_lit2, z_litl, iI_add, iI_sub, iI_mul, iI_neg, iI_and, iI_or, iI_xor, iI_shl, iI_shr, iI_ushr, iI_div, iI_b, iI_c, iI_i2l, lI_l2i, lI_add, lI_sub, lI_mul, lI_neg, lI_div, lI_or, lI_and, lI_shl, lI_shr, nI_iI, lg_lt0, lg_gt0, lg_eq0, i_ne0', l_ne0', iI_lt, iI_le, iI_eq, lI_lt, lI_le, lI_eq, zb_0, zb_fit, zb_fit0, zb_fit1, i_one_zero, i_w_in, z_tb0, z_tb1, z_tb2, z_tb3, z_tb4, z_tb5, z_tb6, z_tb7, z_tb8, z_tbl, z_tu0, z_tu1, z_tu2, z_i_62, z_i_63, z_i_86, z_i_88, z_l_Y, z_ui_62, z_ui_63, z_ui_86, z_ui_88, z_ul_Y, z_sz_Y, z_sw_Y, iI_nat, z_ix_t, z_at, Int.add_zero, Int.sub_zero, Int.zero_add, Int.mul_zero, ne_eq, Bool.false_eq_true, Bool.true_eq_false, reduceCtorEq, eq_self, and_true, true_and, and_false, false_and, and_self, not_true_eq_false, not_false_eq_true, decide_true, decide_false, ↓reduceIte, Int.reduceEq, Int.reduceNe, Int.reduceLT, Int.reduceLE, Int.reduceAdd, Int.reduceSub, Int.reduceMul, Int.reduceNeg, Nat.reduceAdd, Nat.reduceEqDiff, Nat.reduceBEq, ↓z_x_eq, z_g_t, z_bI_s, z_bL_s, z_bR_s, z_bV_s, Int.cast_ofNat_Int, beq_self_eq_true, Bool.and_true, Bool.true_and, Bool.and_self, Bool.or_true, Bool.true_or, Bool.false_and, Bool.and_false, Bool.false_or, Bool.or_false, Bool.not_false, Bool.not_true, if_true, if_false, ite_true, ite_false, z_up_eq, z_up_app, z_ro_eq, e81]
    exact ok_qe w hI

/-! THE PURE PART, 25: the air of blocks in the class; ushers -/
theorem p_fill_l (d : Nat) (T : ZT) (G : ZG) (s : ZG × ZG) {r L : Nat} {v : Int} (hk : ∀ G s, z_kd (z_Y T G s) r = 20) (hl : ∀ G s, z_ln (z_Y T G s) r = L) (hL : L ≤ 1000) (hr : r ≠ 62 ∧ r ≠ 63 ∧ r ≠ 86 ∧ r ≠ 88) (h10 : Nat.ble 10 r = true) : ∀ (n : Nat) (i : Int) (W : Int → Int), 0 ≤ i → i + n = L → (∀ k, 0 ≤ k → k < i → W k = v) → ∃ W', z_w d_Ar_fill (z_call d) 5 [some (vr r), some (vi (iI v)), some (vi (iI i)), some (vi (iI L))] [] (z_Y T (z_up G r W) s) = some (vi (iI 0), z_Y T (z_up G r W') s) ∧ ∀ k : Int, 0 ≤ k → k < L → W' k = v
  | 0, i, W, h0, h, hW => by
    have hf : (i < L) = False := eq_false (by omega)
    refine ⟨W, ?_, fun k a b => hW k a (by omega)⟩
    rw [e_Ar_fill_5]
    simp -implicitDefEqProofs (disch := first | assumption | omega | rfl | (simp only [z_up_eq, z_up_app, ↓reduceIte, Nat.reduceEqDiff]; omega)) only [z_lit0, z_lit1, z_lit2, z_litl, iI_add, iI_sub, iI_mul, iI_neg, iI_and, iI_or, iI_xor, iI_shl, iI_shr, iI_ushr, iI_div, iI_b, iI_c, iI_i2l, lI_l2i, lI_add, lI_sub, lI_mul, lI_neg, lI_div, lI_or, lI_and, lI_shl, lI_shr, nI_iI, lg_lt0, lg_gt0, lg_eq0, i_ne0', l_ne0', iI_lt, iI_le, iI_eq, lI_lt, lI_le, lI_eq, zb_0, zb_fit, zb_fit0, zb_fit1, i_one_zero, i_w_in, z_tb0, z_tb1, z_tb2, z_tb3, z_tb4, z_tb5, z_tb6, z_tb7, z_tb8, z_tbl, z_tu0, z_tu1, z_tu2, z_i_62, z_i_63, z_i_86, z_i_88, z_l_Y, z_ui_62, z_ui_63, z_ui_86, z_ui_88, z_ul_Y, z_sz_Y, z_sw_Y, iI_nat, z_ix_t, z_at, Int.add_zero, Int.sub_zero, Int.zero_add, Int.mul_zero, ne_eq, Bool.false_eq_true, Bool.true_eq_false, reduceCtorEq, eq_self, and_true, true_and, and_false, false_and, and_self, not_true_eq_false, not_false_eq_true, decide_true, decide_false, ↓reduceIte, Int.reduceEq, Int.reduceNe, Int.reduceLT, Int.reduceLE, Int.reduceAdd, Int.reduceSub, Int.reduceMul, Int.reduceNeg, Nat.reduceAdd, Nat.reduceEqDiff, Nat.reduceBEq, ↓z_x_eq, z_g_t, z_bI_s, z_bL_s, z_bR_s, z_bV_s, Int.cast_ofNat_Int, beq_self_eq_true, Bool.and_true, Bool.true_and, Bool.and_self, Bool.or_true, Bool.true_or, Bool.false_and, Bool.and_false, Bool.false_or, Bool.or_false, Bool.not_false, Bool.not_true, if_true, if_false, ite_true, ite_false, z_up_eq, z_up_app, z_ro_eq, hf]
  | n + 1, i, W, h0, h, hW => by
    have hf : (i < L) = True := eq_true (by omega)
    obtain ⟨W', e, p⟩ := p_fill_l d T G s hk hl hL hr h10 n (i + 1) (z_ro W i v) (by omega) (by omega) (fun k a b => by
      unfold z_ro
      by_cases c : k = i
      · rw [if_pos c]
      · rw [if_neg c]; exact hW k a (by omega))
    refine ⟨W', ?_, p⟩
    rw [e_Ar_fill_5]
    simp -implicitDefEqProofs (disch := first | assumption | omega | rfl | (simp only [z_up_eq, z_up_app, ↓reduceIte, Nat.reduceEqDiff]; omega)) only [z_lit0, z_lit1, z_lit2, z_litl, iI_add, iI_sub, iI_mul, iI_neg, iI_and, iI_or, iI_xor, iI_shl, iI_shr, iI_ushr, iI_div, iI_b, iI_c, iI_i2l, lI_l2i, lI_add, lI_sub, lI_mul, lI_neg, lI_div, lI_or, lI_and, lI_shl, lI_shr, nI_iI, lg_lt0, lg_gt0, lg_eq0, i_ne0', l_ne0', iI_lt, iI_le, iI_eq, lI_lt, lI_le, lI_eq, zb_0, zb_fit, zb_fit0, zb_fit1, i_one_zero, i_w_in, z_tb0, z_tb1, z_tb2, z_tb3, z_tb4, z_tb5, z_tb6, z_tb7, z_tb8, z_tbl, z_tu0, z_tu1, z_tu2, z_i_62, z_i_63, z_i_86, z_i_88, z_l_Y, z_ui_62, z_ui_63, z_ui_86, z_ui_88, z_ul_Y, z_sz_Y, z_sw_Y, iI_nat, z_ix_t, z_at, Int.add_zero, Int.sub_zero, Int.zero_add, Int.mul_zero, ne_eq, Bool.false_eq_true, Bool.true_eq_false, reduceCtorEq, eq_self, and_true, true_and, and_false, false_and, and_self, not_true_eq_false, not_false_eq_true, decide_true, decide_false, ↓reduceIte, Int.reduceEq, Int.reduceNe, Int.reduceLT, Int.reduceLE, Int.reduceAdd, Int.reduceSub, Int.reduceMul, Int.reduceNeg, Nat.reduceAdd, Nat.reduceEqDiff, Nat.reduceBEq, ↓z_x_eq, z_g_t, z_bI_s, z_bL_s, z_bR_s, z_bV_s, Int.cast_ofNat_Int, beq_self_eq_true, Bool.and_true, Bool.true_and, Bool.and_self, Bool.or_true, Bool.true_or, Bool.false_and, Bool.and_false, Bool.false_or, Bool.or_false, Bool.not_false, Bool.not_true, if_true, if_false, ite_true, ite_false, z_up_eq, z_up_app, z_ro_eq, hf, hk, hl, h10, z_ui_Y, z_up_up, z_up_eq]
    exact e
theorem p_fill (d : Nat) (T : ZT) (G : ZG) (s : ZG × ZG) {r L : Nat} {v : Int} (hk : ∀ G s, z_kd (z_Y T G s) r = 20) (hl : ∀ G s, z_ln (z_Y T G s) r = L) (hL : L ≤ 1000) (hr : r ≠ 62 ∧ r ≠ 63 ∧ r ≠ 86 ∧ r ≠ 88) (h10 : Nat.ble 10 r = true) : ∃ W', z_call (d + 1) 4 [vr r, vi (iI v)] (z_Y T G s) = some (vi (iI 0), z_Y T (z_up G r W') s) ∧ ∀ k : Int, 0 ≤ k → k < L → W' k = v := by
  obtain ⟨W', e, p⟩ := p_fill_l d T G s (v := v) hk hl hL hr h10 L 0 (G r) (by omega) (by omega) (fun k a b => by omega)
  refine ⟨W', ?_, p⟩
  rw [z_up_id] at e
  rw [e_Ar_fill]
  simp -implicitDefEqProofs (disch := first | assumption | omega | rfl | (simp only [z_up_eq, z_up_app, ↓reduceIte, Nat.reduceEqDiff]; omega)) only [z_lit0, z_lit1, z_lit2, z_litl, iI_add, iI_sub, iI_mul, iI_neg, iI_and, iI_or, iI_xor, iI_shl, iI_shr, iI_ushr, iI_div, iI_b, iI_c, iI_i2l, lI_l2i, lI_add, lI_sub, lI_mul, lI_neg, lI_div, lI_or, lI_and, lI_shl, lI_shr, nI_iI, lg_lt0, lg_gt0, lg_eq0, i_ne0', l_ne0', iI_lt, iI_le, iI_eq, lI_lt, lI_le, lI_eq, zb_0, zb_fit, zb_fit0, zb_fit1, i_one_zero, i_w_in, z_tb0, z_tb1, z_tb2, z_tb3, z_tb4, z_tb5, z_tb6, z_tb7, z_tb8, z_tbl, z_tu0, z_tu1, z_tu2, z_i_62, z_i_63, z_i_86, z_i_88, z_l_Y, z_ui_62, z_ui_63, z_ui_86, z_ui_88, z_ul_Y, z_sz_Y, z_sw_Y, iI_nat, z_ix_t, z_at, Int.add_zero, Int.sub_zero, Int.zero_add, Int.mul_zero, ne_eq, Bool.false_eq_true, Bool.true_eq_false, reduceCtorEq, eq_self, and_true, true_and, and_false, false_and, and_self, not_true_eq_false, not_false_eq_true, decide_true, decide_false, ↓reduceIte, Int.reduceEq, Int.reduceNe, Int.reduceLT, Int.reduceLE, Int.reduceAdd, Int.reduceSub, Int.reduceMul, Int.reduceNeg, Nat.reduceAdd, Nat.reduceEqDiff, Nat.reduceBEq, ↓z_x_eq, z_g_t, z_bI_s, z_bL_s, z_bR_s, z_bV_s, Int.cast_ofNat_Int, beq_self_eq_true, Bool.and_true, Bool.true_and, Bool.and_self, Bool.or_true, Bool.true_or, Bool.false_and, Bool.and_false, Bool.false_or, Bool.or_false, Bool.not_false, Bool.not_true, if_true, if_false, ite_true, ite_false, z_up_eq, z_up_app, z_ro_eq, hk, hl]
  exact e
theorem z_sum_snoc {f : Int → Int} : ∀ (n : Nat) (i : Int), z_sum (n + 1) i f = z_sum n i f + f (i + n)
  | 0, i => by show f i + 0 = 0 + f (i + 0); rw [Int.add_zero, Int.add_zero, Int.zero_add]
  | n + 1, i => by
    show f i + z_sum (n + 1) (i + 1) f = f i + z_sum n (i + 1) f + f (i + (n + 1 : Nat))
    rw [z_sum_snoc n (i + 1), show i + 1 + (n : Int) = i + (n + 1 : Nat) by omega]
    omega
/-- rows that the search of ushers writes -/
abbrev u_g (G : ZG) (B C : Int → Int) : ZG := z_up (z_up G 68 B) 69 C
theorem u_gq {T : ZT} {G : ZG} {B C : Int → Int} (h : c_q T G) : c_q T (u_g G B C) := cq_up (cq_up h (by omega)) (by omega)
/-- the air of blocks and what people change, after the first i -/
def u_b (A X : Int → Int) (be : Int) (i : Nat) (B C : Int → Int) : Prop := (∀ b t, 0 ≤ b → b < 4 → 0 ≤ t → t < 2 → B (2 * b + t) = z_sum i 0 (u_br A X be b t)) ∧ ∀ p t : Int, 0 ≤ p → p < i → 0 ≤ t → t < 2 → A (32 + 5 * p + 3) ≠ -1 → C (2 * p + t) = -t_breath A X p be (A (32 + 5 * p + 3)) (A (32 + 5 * p + 4)) (-t) (A (32 + 5 * p + 2))
theorem p_blk_l (d : Nat) (T : ZT) (G : ZG) {be : Int} (hQ : c_q T G) (hb : 0 ≤ be ∧ be ≤ 20000) : ∀ (n i : Nat) (B C : Int → Int) (s : ZG × ZG), ((i + n : Nat) : Int) = G 81 1 → u_b (G 81) (G 83) be i B C → z_ok (z_w d_Qu_takeBlockAir (z_call (d + 4)) 10 [some (vr 66), some (vi (iI be)), some (vi (iI i)), none, none, none] [] (z_Y T (u_g G B C) s)) (fun y τ => y = vi (iI 0) ∧ ∃ B' C' s', τ = z_Y T (u_g G B' C') s' ∧ u_b (G 81) (G 83) be (G 81 1).toNat B' C')
  | 0, i, B, C, s, h, hB => by
    have m1 := hQ.1.1.2.1
    have q := (cw_h hQ.1).2.1
    have hf : ((i : Int) < G 81 1) = False := eq_false (by omega)
    rw [e_Qu_takeBlockAir_10]
    simp -implicitDefEqProofs (disch := first | assumption | omega | rfl | (simp only [z_up_eq, z_up_app, ↓reduceIte, Nat.reduceEqDiff]; omega)) only [z_lit0, z_lit1, z_lit2, z_litl, iI_add, iI_sub, iI_mul, iI_neg, iI_and, iI_or, iI_xor, iI_shl, iI_shr, iI_ushr, iI_div, iI_b, iI_c, iI_i2l, lI_l2i, lI_add, lI_sub, lI_mul, lI_neg, lI_div, lI_or, lI_and, lI_shl, lI_shr, nI_iI, lg_lt0, lg_gt0, lg_eq0, i_ne0', l_ne0', iI_lt, iI_le, iI_eq, lI_lt, lI_le, lI_eq, zb_0, zb_fit, zb_fit0, zb_fit1, i_one_zero, i_w_in, z_tb0, z_tb1, z_tb2, z_tb3, z_tb4, z_tb5, z_tb6, z_tb7, z_tb8, z_tbl, z_tu0, z_tu1, z_tu2, z_i_62, z_i_63, z_i_86, z_i_88, z_l_Y, z_ui_62, z_ui_63, z_ui_86, z_ui_88, z_ul_Y, z_sz_Y, z_sw_Y, iI_nat, z_ix_t, z_at, Int.add_zero, Int.sub_zero, Int.zero_add, Int.mul_zero, ne_eq, Bool.false_eq_true, Bool.true_eq_false, reduceCtorEq, eq_self, and_true, true_and, and_false, false_and, and_self, not_true_eq_false, not_false_eq_true, decide_true, decide_false, ↓reduceIte, Int.reduceEq, Int.reduceNe, Int.reduceLT, Int.reduceLE, Int.reduceAdd, Int.reduceSub, Int.reduceMul, Int.reduceNeg, Nat.reduceAdd, Nat.reduceEqDiff, Nat.reduceBEq, ↓z_x_eq, z_g_t, z_bI_s, z_bL_s, z_bR_s, z_bV_s, Int.cast_ofNat_Int, beq_self_eq_true, Bool.and_true, Bool.true_and, Bool.and_self, Bool.or_true, Bool.true_or, Bool.false_and, Bool.and_false, Bool.false_or, Bool.or_false, Bool.not_false, Bool.not_true, if_true, if_false, ite_true, ite_false, z_up_eq, z_up_app, z_ro_eq, hf, q]
    exact ok_ret ⟨rfl, B, C, s, rfl, by rw [show (G 81 1).toNat = i by omega]; exact hB⟩
  | n + 1, i, B, C, s, h, hB => by
    have m1 := hQ.1.1.2.1
    have m0 := hQ.1.1.1
    have q := (cw_h hQ.1).2.1
    have hf : ((i : Int) < G 81 1) = True := eq_true (by omega)
    have hp : (0 : Int) ≤ i ∧ (i : Int) < G 81 1 := ⟨by omega, by omega⟩
    have mp := mo_p hQ.1.1 i hp.1 hp.2
    have o1 := (cw_o hQ.1 i hp.1 hp.2).1
    have o2 := (cw_o hQ.1 i hp.1 hp.2).2
    have o3 := (cw_p hQ.1 i hp.1 hp.2).2.2
    have ih := fun B C s1 => p_blk_l d T G hQ hb n (i + 1) B C s1 (by omega)
    have ci : ((i + 1 : Nat) : Int) = (i : Int) + 1 := by omega
    rw [ci] at ih
    have sn : ∀ b t, z_sum (i + 1) 0 (u_br (G 81) (G 83) be b t) = z_sum i 0 (u_br (G 81) (G 83) be b t) + u_br (G 81) (G 83) be b t i := fun b t => by rw [z_sum_snoc, Int.zero_add]
    rw [e_Qu_takeBlockAir_10]
    by_cases c : G 81 (32 + 5 * (i : Int) + 3) = -1
    · simp -implicitDefEqProofs (disch := first | assumption | omega | rfl | (simp only [z_up_eq, z_up_app, ↓reduceIte, Nat.reduceEqDiff]; omega)) only [z_lit0, z_lit1, z_lit2, z_litl, iI_add, iI_sub, iI_mul, iI_neg, iI_and, iI_or, iI_xor, iI_shl, iI_shr, iI_ushr, iI_div, iI_b, iI_c, iI_i2l, lI_l2i, lI_add, lI_sub, lI_mul, lI_neg, lI_div, lI_or, lI_and, lI_shl, lI_shr, nI_iI, lg_lt0, lg_gt0, lg_eq0, i_ne0', l_ne0', iI_lt, iI_le, iI_eq, lI_lt, lI_le, lI_eq, zb_0, zb_fit, zb_fit0, zb_fit1, i_one_zero, i_w_in, z_tb0, z_tb1, z_tb2, z_tb3, z_tb4, z_tb5, z_tb6, z_tb7, z_tb8, z_tbl, z_tu0, z_tu1, z_tu2, z_i_62, z_i_63, z_i_86, z_i_88, z_l_Y, z_ui_62, z_ui_63, z_ui_86, z_ui_88, z_ul_Y, z_sz_Y, z_sw_Y, iI_nat, z_ix_t, z_at, Int.add_zero, Int.sub_zero, Int.zero_add, Int.mul_zero, ne_eq, Bool.false_eq_true, Bool.true_eq_false, reduceCtorEq, eq_self, and_true, true_and, and_false, false_and, and_self, not_true_eq_false, not_false_eq_true, decide_true, decide_false, ↓reduceIte, Int.reduceEq, Int.reduceNe, Int.reduceLT, Int.reduceLE, Int.reduceAdd, Int.reduceSub, Int.reduceMul, Int.reduceNeg, Nat.reduceAdd, Nat.reduceEqDiff, Nat.reduceBEq, ↓z_x_eq, z_g_t, z_bI_s, z_bL_s, z_bR_s, z_bV_s, Int.cast_ofNat_Int, beq_self_eq_true, Bool.and_true, Bool.true_and, Bool.and_self, Bool.or_true, Bool.true_or, Bool.false_and, Bool.and_false, Bool.false_or, Bool.or_false, Bool.not_false, Bool.not_true, if_true, if_false, ite_true, ite_false, z_up_eq, z_up_app, z_ro_eq, hf, q, o1, e_Qu_takeBlockAir_34, c]
      refine ih B C s ⟨fun b t a e f g => ?_, fun p t a e f g k => ?_⟩
      · rw [sn, hB.1 b t a e f g]
        have : u_br (G 81) (G 83) be b t i = 0 := if_neg (fun q => q.1 c)
        rw [this, Int.add_zero]
      · by_cases e2 : p = i
        · rw [e2] at k; exact absurd c k
        · exact hB.2 p t a (by omega) f g k
    · have q5 := (cw_s hQ.1 (G 81 (32 + 5 * (i : Int) + 3)) (by omega) (by omega)).1
      have ms := (mo_s hQ.1.1 (G 81 (32 + 5 * (i : Int) + 3)) (by omega) (by omega)).1
      simp -implicitDefEqProofs (disch := first | assumption | omega | rfl | (simp only [z_up_eq, z_up_app, ↓reduceIte, Nat.reduceEqDiff]; omega)) only [z_lit0, z_lit1, z_lit2, z_litl, iI_add, iI_sub, iI_mul, iI_neg, iI_and, iI_or, iI_xor, iI_shl, iI_shr, iI_ushr, iI_div, iI_b, iI_c, iI_i2l, lI_l2i, lI_add, lI_sub, lI_mul, lI_neg, lI_div, lI_or, lI_and, lI_shl, lI_shr, nI_iI, lg_lt0, lg_gt0, lg_eq0, i_ne0', l_ne0', iI_lt, iI_le, iI_eq, lI_lt, lI_le, lI_eq, zb_0, zb_fit, zb_fit0, zb_fit1, i_one_zero, i_w_in, z_tb0, z_tb1, z_tb2, z_tb3, z_tb4, z_tb5, z_tb6, z_tb7, z_tb8, z_tbl, z_tu0, z_tu1, z_tu2, z_i_62, z_i_63, z_i_86, z_i_88, z_l_Y, z_ui_62, z_ui_63, z_ui_86, z_ui_88, z_ul_Y, z_sz_Y, z_sw_Y, iI_nat, z_ix_t, z_at, Int.add_zero, Int.sub_zero, Int.zero_add, Int.mul_zero, ne_eq, Bool.false_eq_true, Bool.true_eq_false, reduceCtorEq, eq_self, and_true, true_and, and_false, false_and, and_self, not_true_eq_false, not_false_eq_true, decide_true, decide_false, ↓reduceIte, Int.reduceEq, Int.reduceNe, Int.reduceLT, Int.reduceLE, Int.reduceAdd, Int.reduceSub, Int.reduceMul, Int.reduceNeg, Nat.reduceAdd, Nat.reduceEqDiff, Nat.reduceBEq, ↓z_x_eq, z_g_t, z_bI_s, z_bL_s, z_bR_s, z_bV_s, Int.cast_ofNat_Int, beq_self_eq_true, Bool.and_true, Bool.true_and, Bool.and_self, Bool.or_true, Bool.true_or, Bool.false_and, Bool.and_false, Bool.false_or, Bool.or_false, Bool.not_false, Bool.not_true, if_true, if_false, ite_true, ite_false, z_up_eq, z_up_app, z_ro_eq, hf, q, o1, e_Qu_takeBlockAir_34, c, o2, o3]
      have br := fun us B C s => p_cbreath d T (u_g G B C) s (p := i) (b := be) (st := G 81 (32 + 5 * (i : Int) + 3)) (hw := G 81 (32 + 5 * (i : Int) + 4)) (us := us) (sa := G 81 (32 + 5 * (i : Int) + 2)) (u_gq hQ) hp hb ⟨mp.2.2.2.1.1, mp.2.2.2.1.2⟩ (by omega) (by omega)
      have br' : ∀ us B C s, z_ok (z_call (d + 4) 191 [vr 61, vi (iI (i : Int)), vi (iI be), vi (iI (G 81 (32 + 5 * (i : Int) + 3))), vi (iI (G 81 (32 + 5 * (i : Int) + 4))), vi (iI us), vi (iI (G 81 (32 + 5 * (i : Int) + 2)))] (z_Y T (u_g G B C) s)) (z_q T (u_g G B C) (vi (iI (t_breath (G 81) (G 83) i be (G 81 (32 + 5 * (i : Int) + 3)) (G 81 (32 + 5 * (i : Int) + 4)) us (G 81 (32 + 5 * (i : Int) + 2)))))) := br
      refine ok_cI (br' _ B C s) (fun s1 => ?_)
      simp -implicitDefEqProofs (disch := first | assumption | omega | rfl | (simp only [z_up_eq, z_up_app, ↓reduceIte, Nat.reduceEqDiff]; omega)) only [z_lit0, z_lit1, z_lit2, z_litl, iI_add, iI_sub, iI_mul, iI_neg, iI_and, iI_or, iI_xor, iI_shl, iI_shr, iI_ushr, iI_div, iI_b, iI_c, iI_i2l, lI_l2i, lI_add, lI_sub, lI_mul, lI_neg, lI_div, lI_or, lI_and, lI_shl, lI_shr, nI_iI, lg_lt0, lg_gt0, lg_eq0, i_ne0', l_ne0', iI_lt, iI_le, iI_eq, lI_lt, lI_le, lI_eq, zb_0, zb_fit, zb_fit0, zb_fit1, i_one_zero, i_w_in, z_tb0, z_tb1, z_tb2, z_tb3, z_tb4, z_tb5, z_tb6, z_tb7, z_tb8, z_tbl, z_tu0, z_tu1, z_tu2, z_i_62, z_i_63, z_i_86, z_i_88, z_l_Y, z_ui_62, z_ui_63, z_ui_86, z_ui_88, z_ul_Y, z_sz_Y, z_sw_Y, iI_nat, z_ix_t, z_at, Int.add_zero, Int.sub_zero, Int.zero_add, Int.mul_zero, ne_eq, Bool.false_eq_true, Bool.true_eq_false, reduceCtorEq, eq_self, and_true, true_and, and_false, false_and, and_self, not_true_eq_false, not_false_eq_true, decide_true, decide_false, ↓reduceIte, Int.reduceEq, Int.reduceNe, Int.reduceLT, Int.reduceLE, Int.reduceAdd, Int.reduceSub, Int.reduceMul, Int.reduceNeg, Nat.reduceAdd, Nat.reduceEqDiff, Nat.reduceBEq, ↓z_x_eq, z_g_t, z_bI_s, z_bL_s, z_bR_s, z_bV_s, Int.cast_ofNat_Int, beq_self_eq_true, Bool.and_true, Bool.true_and, Bool.and_self, Bool.or_true, Bool.true_or, Bool.false_and, Bool.and_false, Bool.false_or, Bool.or_false, Bool.not_false, Bool.not_true, if_true, if_false, ite_true, ite_false, z_up_eq, z_up_app, z_ro_eq, q5, z_up_up, z_up_cm, e_Qu_takeBlockAir_34, c, o2, o3]
      refine ok_cI (br' _ _ _ s1) (fun s2 => ?_)
      simp -implicitDefEqProofs (disch := first | assumption | omega | rfl | (simp only [z_up_eq, z_up_app, ↓reduceIte, Nat.reduceEqDiff]; omega)) only [z_lit0, z_lit1, z_lit2, z_litl, iI_add, iI_sub, iI_mul, iI_neg, iI_and, iI_or, iI_xor, iI_shl, iI_shr, iI_ushr, iI_div, iI_b, iI_c, iI_i2l, lI_l2i, lI_add, lI_sub, lI_mul, lI_neg, lI_div, lI_or, lI_and, lI_shl, lI_shr, nI_iI, lg_lt0, lg_gt0, lg_eq0, i_ne0', l_ne0', iI_lt, iI_le, iI_eq, lI_lt, lI_le, lI_eq, zb_0, zb_fit, zb_fit0, zb_fit1, i_one_zero, i_w_in, z_tb0, z_tb1, z_tb2, z_tb3, z_tb4, z_tb5, z_tb6, z_tb7, z_tb8, z_tbl, z_tu0, z_tu1, z_tu2, z_i_62, z_i_63, z_i_86, z_i_88, z_l_Y, z_ui_62, z_ui_63, z_ui_86, z_ui_88, z_ul_Y, z_sz_Y, z_sw_Y, iI_nat, z_ix_t, z_at, Int.add_zero, Int.sub_zero, Int.zero_add, Int.mul_zero, ne_eq, Bool.false_eq_true, Bool.true_eq_false, reduceCtorEq, eq_self, and_true, true_and, and_false, false_and, and_self, not_true_eq_false, not_false_eq_true, decide_true, decide_false, ↓reduceIte, Int.reduceEq, Int.reduceNe, Int.reduceLT, Int.reduceLE, Int.reduceAdd, Int.reduceSub, Int.reduceMul, Int.reduceNeg, Nat.reduceAdd, Nat.reduceEqDiff, Nat.reduceBEq, ↓z_x_eq, z_g_t, z_bI_s, z_bL_s, z_bR_s, z_bV_s, Int.cast_ofNat_Int, beq_self_eq_true, Bool.and_true, Bool.true_and, Bool.and_self, Bool.or_true, Bool.true_or, Bool.false_and, Bool.and_false, Bool.false_or, Bool.or_false, Bool.not_false, Bool.not_true, if_true, if_false, ite_true, ite_false, z_up_eq, z_up_app, z_ro_eq, q5, z_up_up, z_up_cm, e_Qu_takeBlockAir_34]
      refine ih _ _ s2 ⟨fun b t a e f g => ?_, fun p t a e f g k => ?_⟩
      · rw [sn, ← hB.1 b t a e f g]
        unfold u_br
        by_cases cb : G 81 (12 + 2 * G 81 (32 + 5 * (i : Int) + 3)) = b
        · rw [if_pos ⟨c, cb⟩]
          rcases (show t = 0 ∨ t = 1 by omega) with rfl | rfl
          · rw [z_ro_ne _ _ (by omega), z_ro_pos _ _ (by omega)]
            rw [cb, Int.add_zero]; try rfl
          · rw [z_ro_pos _ _ (by omega), z_ro_ne _ _ (by omega), cb]
        · rw [if_neg (fun q => cb q.2), Int.add_zero, z_ro_ne _ _ (by omega), z_ro_ne _ _ (by omega)]
      · by_cases e2 : p = i
        · rw [e2]
          rcases (show t = 0 ∨ t = 1 by omega) with rfl | rfl
          · rw [z_ro_ne _ _ (by omega), z_ro_pos _ _ (by omega)]; try rfl
          · rw [z_ro_pos _ _ (by omega)]
        · rw [z_ro_ne _ _ (by omega), z_ro_ne _ _ (by omega)]
          exact hB.2 p t a (by omega) f g k
theorem p_blk (d : Nat) (T : ZT) (G : ZG) (s : ZG × ZG) {be : Int} (hQ : c_q T G) (hb : 0 ≤ be ∧ be ≤ 20000) : z_ok (z_call (d + 5) 254 [vr 66, vi (iI be)] (z_Y T G s)) (fun y τ => y = vi (iI 0) ∧ ∃ B' C' s', τ = z_Y T (u_g G B' C') s' ∧ u_b (G 81) (G 83) be (G 81 1).toNat B' C') := by
  have m1 := hQ.1.1.2.1
  obtain ⟨W, e, p⟩ := p_fill (d + 3) T G s (r := 68) (L := 8) (v := 0) (fun _ _ => rfl) (fun _ _ => rfl) (by omega) (by omega) rfl
  have h := p_blk_l d T G hQ hb (G 81 1).toNat 0 W (G 69) s (by omega) ⟨fun b t a e f g => by rw [p _ (by omega) (by omega)]; rfl, fun p t a e => by omega⟩
  have e2 : u_g G W (G 69) = z_up G 68 W := z_up_self (z_up_ne G W (show 69 ≠ 68 by omega)).symm
  rw [e2] at h
  rw [e_Qu_takeBlockAir]
  simp -implicitDefEqProofs (disch := first | assumption | omega | rfl | (simp only [z_up_eq, z_up_app, ↓reduceIte, Nat.reduceEqDiff]; omega)) only [z_lit0, z_lit1, z_lit2, z_litl, iI_add, iI_sub, iI_mul, iI_neg, iI_and, iI_or, iI_xor, iI_shl, iI_shr, iI_ushr, iI_div, iI_b, iI_c, iI_i2l, lI_l2i, lI_add, lI_sub, lI_mul, lI_neg, lI_div, lI_or, lI_and, lI_shl, lI_shr, nI_iI, lg_lt0, lg_gt0, lg_eq0, i_ne0', l_ne0', iI_lt, iI_le, iI_eq, lI_lt, lI_le, lI_eq, zb_0, zb_fit, zb_fit0, zb_fit1, i_one_zero, i_w_in, z_tb0, z_tb1, z_tb2, z_tb3, z_tb4, z_tb5, z_tb6, z_tb7, z_tb8, z_tbl, z_tu0, z_tu1, z_tu2, z_i_62, z_i_63, z_i_86, z_i_88, z_l_Y, z_ui_62, z_ui_63, z_ui_86, z_ui_88, z_ul_Y, z_sz_Y, z_sw_Y, iI_nat, z_ix_t, z_at, Int.add_zero, Int.sub_zero, Int.zero_add, Int.mul_zero, ne_eq, Bool.false_eq_true, Bool.true_eq_false, reduceCtorEq, eq_self, and_true, true_and, and_false, false_and, and_self, not_true_eq_false, not_false_eq_true, decide_true, decide_false, ↓reduceIte, Int.reduceEq, Int.reduceNe, Int.reduceLT, Int.reduceLE, Int.reduceAdd, Int.reduceSub, Int.reduceMul, Int.reduceNeg, Nat.reduceAdd, Nat.reduceEqDiff, Nat.reduceBEq, ↓z_x_eq, z_g_t, z_bI_s, z_bL_s, z_bR_s, z_bV_s, Int.cast_ofNat_Int, beq_self_eq_true, Bool.and_true, Bool.true_and, Bool.and_self, Bool.or_true, Bool.true_or, Bool.false_and, Bool.and_false, Bool.false_or, Bool.or_false, Bool.not_false, Bool.not_true, if_true, if_false, ite_true, ite_false, z_up_eq, z_up_app, z_ro_eq, e]
  exact h
theorem p_airBy (d : Nat) (T : ZT) (G : ZG) (s : ZG × ZG) {be us : Int} {C : Int → Int} (hM : m_ok (G 81)) (hu : 0 ≤ us ∧ us ≤ 15) (hB : u_b (G 81) (G 83) be (G 81 1).toNat (G 68) C) : z_call (d + 1) 255 [vr 66, vi (iI us)] (z_Y T G s) = some (vi (iI (m_air0 (z_ro (G 81) 8 us) (G 83) be)), z_Y T G s) := by
  have z0 := zb_in (i_has us 0)
  have z1 := zb_in (i_has us 1)
  have z2 := zb_in (i_has us 2)
  have z3 := zb_in (i_has us 3)
  have b0 := hB.1 0 (zb (i_has us 0)) (by omega) (by omega) z0.1 (by omega)
  have b1 := hB.1 1 (zb (i_has us 1)) (by omega) (by omega) z1.1 (by omega)
  have b2 := hB.1 2 (zb (i_has us 2)) (by omega) (by omega) z2.1 (by omega)
  have b3 := hB.1 3 (zb (i_has us 3)) (by omega) (by omega) z3.1 (by omega)
  simp only [Int.mul_zero, Int.zero_add, Int.reduceMul] at b0 b1 b2 b3
  rw [e_Qu_airBy, ← u_air hM hu]
  simp -implicitDefEqProofs (disch := first | assumption | omega | rfl | (simp only [z_up_eq, z_up_app, ↓reduceIte, Nat.reduceEqDiff]; omega)) only [z_lit0, z_lit1, z_lit2, z_litl, iI_add, iI_sub, iI_mul, iI_neg, iI_and, iI_or, iI_xor, iI_shl, iI_shr, iI_ushr, iI_div, iI_b, iI_c, iI_i2l, lI_l2i, lI_add, lI_sub, lI_mul, lI_neg, lI_div, lI_or, lI_and, lI_shl, lI_shr, nI_iI, lg_lt0, lg_gt0, lg_eq0, i_ne0', l_ne0', iI_lt, iI_le, iI_eq, lI_lt, lI_le, lI_eq, zb_0, zb_fit, zb_fit0, zb_fit1, i_one_zero, i_w_in, z_tb0, z_tb1, z_tb2, z_tb3, z_tb4, z_tb5, z_tb6, z_tb7, z_tb8, z_tbl, z_tu0, z_tu1, z_tu2, z_i_62, z_i_63, z_i_86, z_i_88, z_l_Y, z_ui_62, z_ui_63, z_ui_86, z_ui_88, z_ul_Y, z_sz_Y, z_sw_Y, iI_nat, z_ix_t, z_at, Int.add_zero, Int.sub_zero, Int.zero_add, Int.mul_zero, ne_eq, Bool.false_eq_true, Bool.true_eq_false, reduceCtorEq, eq_self, and_true, true_and, and_false, false_and, and_self, not_true_eq_false, not_false_eq_true, decide_true, decide_false, ↓reduceIte, Int.reduceEq, Int.reduceNe, Int.reduceLT, Int.reduceLE, Int.reduceAdd, Int.reduceSub, Int.reduceMul, Int.reduceNeg, Nat.reduceAdd, Nat.reduceEqDiff, Nat.reduceBEq, ↓z_x_eq, z_g_t, z_bI_s, z_bL_s, z_bR_s, z_bV_s, Int.cast_ofNat_Int, beq_self_eq_true, Bool.and_true, Bool.true_and, Bool.and_self, Bool.or_true, Bool.true_or, Bool.false_and, Bool.and_false, Bool.false_or, Bool.or_false, Bool.not_false, Bool.not_true, if_true, if_false, ite_true, ite_false, z_up_eq, z_up_app, z_ro_eq, e_Qu_airBy_4, i_and1_zb, b0, b1, b2, b3]
/-- what the search leaves alone; how many askings there were -/
def u_st (G G' : ZG) (k : Int) : Prop := (∀ r, r ≠ 61 → r ≠ 64 → r ≠ 68 → r ≠ 69 → G' r = G r) ∧ 0 ≤ G' 61 5 ∧ G' 61 5 ≤ G 61 5 + k ∧ ∀ i, 0 ≤ i → i < 181 → 0 ≤ G' 64 i ∧ G' 64 i ≤ 2 * G' 61 5 + 1
theorem u_id {G : ZG} {c : Int} (h : z_ask G c) : u_st G G 0 := ⟨fun _ _ _ _ _ => rfl, h.1, by omega, h.2.2⟩
theorem u_cq {T : ZT} {G G' : ZG} {k : Int} (h : c_q T G) (hu : u_st G G' k) : c_q T G' :=
  ⟨c_now_eq (fun r a b => hu.1 r (by omega) (by omega) (by omega) (by omega)) (hu.1 81 (by omega) (by omega) (by omega) (by omega)) h.1, t_ok_eq (fun r a => hu.1 r (by omega) (by omega) (by omega) (by omega)) (hu.1 83 (by omega) (by omega) (by omega) (by omega)) (by rw [hu.1 81 (by omega) (by omega) (by omega) (by omega)]) (by rw [hu.1 82 (by omega) (by omega) (by omega) (by omega)]) h.2⟩
/-- after the search for a note: its block air, its verdicts -/
def u_nt (G G' : ZG) (n : Int) : Prop := v_ok G' n (G' 64) ∧ u_b (G 81) (G 83) (G 81 (82 + 2 * n)) (G 81 1).toNat (G' 68) (G' 69)
theorem p_sets_l (d : Nat) (T : ZT) (G G' : ZG) {k n : Int} (hQ : c_q T G) (hu : u_st G G' k) (hn : 0 ≤ n ∧ n < G 81 2) (hB : u_b (G 81) (G 83) (G 81 (82 + 2 * n)) (G 81 1).toNat (G' 68) (G' 69)) : ∀ (m : Nat) (i acc : Int) (V : Int → Int) (s : ZG × ZG), 0 ≤ i → i + m = 16 → v_ok G' n V → z_ok (z_w d_Qu_setsThatHold (z_call (d + 4)) 25 [some (vr 66), none, some (vi (iI acc)), some (vi (iI i))] [] (z_Y T (z_up G' 64 V) s)) (fun y τ => y = vi (iI (z_bor m i (fun us => m_holds (G 81) (G 83) (G 81 6) n (m_air0 (z_ro (G 81) 8 us) (G 83) (G 81 (82 + 2 * n))) (G 81 (82 + 2 * n))) acc)) ∧ ∃ V' s', τ = z_Y T (z_up G' 64 V') s' ∧ v_ok G' n V')
  | 0, i, acc, V, s, h0, h, hv => by
    have hf : (i < 16) = False := eq_false (by omega)
    rw [e_Qu_setsThatHold_25]
    simp -implicitDefEqProofs (disch := first | assumption | omega | rfl | (simp only [z_up_eq, z_up_app, ↓reduceIte, Nat.reduceEqDiff]; omega)) only [z_lit0, z_lit1, z_lit2, z_litl, iI_add, iI_sub, iI_mul, iI_neg, iI_and, iI_or, iI_xor, iI_shl, iI_shr, iI_ushr, iI_div, iI_b, iI_c, iI_i2l, lI_l2i, lI_add, lI_sub, lI_mul, lI_neg, lI_div, lI_or, lI_and, lI_shl, lI_shr, nI_iI, lg_lt0, lg_gt0, lg_eq0, i_ne0', l_ne0', iI_lt, iI_le, iI_eq, lI_lt, lI_le, lI_eq, zb_0, zb_fit, zb_fit0, zb_fit1, i_one_zero, i_w_in, z_tb0, z_tb1, z_tb2, z_tb3, z_tb4, z_tb5, z_tb6, z_tb7, z_tb8, z_tbl, z_tu0, z_tu1, z_tu2, z_i_62, z_i_63, z_i_86, z_i_88, z_l_Y, z_ui_62, z_ui_63, z_ui_86, z_ui_88, z_ul_Y, z_sz_Y, z_sw_Y, iI_nat, z_ix_t, z_at, Int.add_zero, Int.sub_zero, Int.zero_add, Int.mul_zero, ne_eq, Bool.false_eq_true, Bool.true_eq_false, reduceCtorEq, eq_self, and_true, true_and, and_false, false_and, and_self, not_true_eq_false, not_false_eq_true, decide_true, decide_false, ↓reduceIte, Int.reduceEq, Int.reduceNe, Int.reduceLT, Int.reduceLE, Int.reduceAdd, Int.reduceSub, Int.reduceMul, Int.reduceNeg, Nat.reduceAdd, Nat.reduceEqDiff, Nat.reduceBEq, ↓z_x_eq, z_g_t, z_bI_s, z_bL_s, z_bR_s, z_bV_s, Int.cast_ofNat_Int, beq_self_eq_true, Bool.and_true, Bool.true_and, Bool.and_self, Bool.or_true, Bool.true_or, Bool.false_and, Bool.and_false, Bool.false_or, Bool.or_false, Bool.not_false, Bool.not_true, if_true, if_false, ite_true, ite_false, z_up_eq, z_up_app, z_ro_eq, hf]
    exact ok_ret ⟨rfl, V, s, rfl, hv⟩
  | m + 1, i, acc, V, s, h0, h, hv => by
    have ih := fun acc V s1 => p_sets_l d T G G' hQ hu hn hB m (i + 1) acc V s1 (by omega) (by omega)
    have hf : (i < 16) = True := eq_true (by omega)
    have e81 : G' 81 = G 81 := hu.1 81 (by omega) (by omega) (by omega) (by omega)
    have e83 : G' 83 = G 83 := hu.1 83 (by omega) (by omega) (by omega) (by omega)
    have pa := p_airBy (d + 3) T (z_up G' 64 V) s (be := G 81 (82 + 2 * n)) (us := i) (C := G' 69) (by rw [z_up_ne _ _ (show 81 ≠ 64 by omega), e81]; exact hQ.1.1) ⟨h0, by omega⟩ (by rw [z_up_ne _ _ (show 81 ≠ 64 by omega), z_up_ne _ _ (show 83 ≠ 64 by omega), z_up_ne _ _ (show 68 ≠ 64 by omega), e81, e83]; exact hB)
    rw [z_up_ne _ _ (show 81 ≠ 64 by omega), z_up_ne _ _ (show 83 ≠ 64 by omega), e81, e83] at pa
    have hB8 := ag_ush hQ.1.1 (v := i) ⟨h0, by omega⟩
    have hai := m_air0_b (X := G 83) (b := G 81 (82 + 2 * n)) hB8
    have e : z_bor (m + 1) i (fun us => m_holds (G 81) (G 83) (G 81 6) n (m_air0 (z_ro (G 81) 8 us) (G 83) (G 81 (82 + 2 * n))) (G 81 (82 + 2 * n))) acc = z_bor m (i + 1) (fun us => m_holds (G 81) (G 83) (G 81 6) n (m_air0 (z_ro (G 81) 8 us) (G 83) (G 81 (82 + 2 * n))) (G 81 (82 + 2 * n))) (cond (m_holds (G 81) (G 83) (G 81 6) n (m_air0 (z_ro (G 81) 8 i) (G 83) (G 81 (82 + 2 * n))) (G 81 (82 + 2 * n))) (i_or acc (i_shl 1 i)) acc) := rfl
    have pw := p_would d T G' s (n := n) (V := V) (u_cq hQ hu) hv hai
    rw [e81, e83] at pw
    rw [e, e_Qu_setsThatHold_25]
    simp -implicitDefEqProofs (disch := first | assumption | omega | rfl | (simp only [z_up_eq, z_up_app, ↓reduceIte, Nat.reduceEqDiff]; omega)) only [z_lit0, z_lit1, z_lit2, z_litl, iI_add, iI_sub, iI_mul, iI_neg, iI_and, iI_or, iI_xor, iI_shl, iI_shr, iI_ushr, iI_div, iI_b, iI_c, iI_i2l, lI_l2i, lI_add, lI_sub, lI_mul, lI_neg, lI_div, lI_or, lI_and, lI_shl, lI_shr, nI_iI, lg_lt0, lg_gt0, lg_eq0, i_ne0', l_ne0', iI_lt, iI_le, iI_eq, lI_lt, lI_le, lI_eq, zb_0, zb_fit, zb_fit0, zb_fit1, i_one_zero, i_w_in, z_tb0, z_tb1, z_tb2, z_tb3, z_tb4, z_tb5, z_tb6, z_tb7, z_tb8, z_tbl, z_tu0, z_tu1, z_tu2, z_i_62, z_i_63, z_i_86, z_i_88, z_l_Y, z_ui_62, z_ui_63, z_ui_86, z_ui_88, z_ul_Y, z_sz_Y, z_sw_Y, iI_nat, z_ix_t, z_at, Int.add_zero, Int.sub_zero, Int.zero_add, Int.mul_zero, ne_eq, Bool.false_eq_true, Bool.true_eq_false, reduceCtorEq, eq_self, and_true, true_and, and_false, false_and, and_self, not_true_eq_false, not_false_eq_true, decide_true, decide_false, ↓reduceIte, Int.reduceEq, Int.reduceNe, Int.reduceLT, Int.reduceLE, Int.reduceAdd, Int.reduceSub, Int.reduceMul, Int.reduceNeg, Nat.reduceAdd, Nat.reduceEqDiff, Nat.reduceBEq, ↓z_x_eq, z_g_t, z_bI_s, z_bL_s, z_bR_s, z_bV_s, Int.cast_ofNat_Int, beq_self_eq_true, Bool.and_true, Bool.true_and, Bool.and_self, Bool.or_true, Bool.true_or, Bool.false_and, Bool.and_false, Bool.false_or, Bool.or_false, Bool.not_false, Bool.not_true, if_true, if_false, ite_true, ite_false, z_up_eq, z_up_app, z_ro_eq, hf, pa]
    refine ok_pI pw ?_
    rintro y τ ⟨rfl, V1, s1, rfl, hv1⟩
    refine ⟨_, rfl, ?_⟩
    cases m_holds (G 81) (G 83) (G 81 6) n (m_air0 (z_ro (G 81) 8 i) (G 83) (G 81 (82 + 2 * n))) (G 81 (82 + 2 * n))
    · simp -implicitDefEqProofs (disch := first | assumption | omega | rfl | (simp only [z_up_eq, z_up_app, ↓reduceIte, Nat.reduceEqDiff]; omega)) only [z_lit0, z_lit1, z_lit2, z_litl, iI_add, iI_sub, iI_mul, iI_neg, iI_and, iI_or, iI_xor, iI_shl, iI_shr, iI_ushr, iI_div, iI_b, iI_c, iI_i2l, lI_l2i, lI_add, lI_sub, lI_mul, lI_neg, lI_div, lI_or, lI_and, lI_shl, lI_shr, nI_iI, lg_lt0, lg_gt0, lg_eq0, i_ne0', l_ne0', iI_lt, iI_le, iI_eq, lI_lt, lI_le, lI_eq, zb_0, zb_fit, zb_fit0, zb_fit1, i_one_zero, i_w_in, z_tb0, z_tb1, z_tb2, z_tb3, z_tb4, z_tb5, z_tb6, z_tb7, z_tb8, z_tbl, z_tu0, z_tu1, z_tu2, z_i_62, z_i_63, z_i_86, z_i_88, z_l_Y, z_ui_62, z_ui_63, z_ui_86, z_ui_88, z_ul_Y, z_sz_Y, z_sw_Y, iI_nat, z_ix_t, z_at, Int.add_zero, Int.sub_zero, Int.zero_add, Int.mul_zero, ne_eq, Bool.false_eq_true, Bool.true_eq_false, reduceCtorEq, eq_self, and_true, true_and, and_false, false_and, and_self, not_true_eq_false, not_false_eq_true, decide_true, decide_false, ↓reduceIte, Int.reduceEq, Int.reduceNe, Int.reduceLT, Int.reduceLE, Int.reduceAdd, Int.reduceSub, Int.reduceMul, Int.reduceNeg, Nat.reduceAdd, Nat.reduceEqDiff, Nat.reduceBEq, ↓z_x_eq, z_g_t, z_bI_s, z_bL_s, z_bR_s, z_bV_s, Int.cast_ofNat_Int, beq_self_eq_true, Bool.and_true, Bool.true_and, Bool.and_self, Bool.or_true, Bool.true_or, Bool.false_and, Bool.and_false, Bool.false_or, Bool.or_false, Bool.not_false, Bool.not_true, if_true, if_false, ite_true, ite_false, z_up_eq, z_up_app, z_ro_eq, zb_f]
      exact ih _ V1 s1 hv1
    · simp -implicitDefEqProofs (disch := first | assumption | omega | rfl | (simp only [z_up_eq, z_up_app, ↓reduceIte, Nat.reduceEqDiff]; omega)) only [z_lit0, z_lit1, z_lit2, z_litl, iI_add, iI_sub, iI_mul, iI_neg, iI_and, iI_or, iI_xor, iI_shl, iI_shr, iI_ushr, iI_div, iI_b, iI_c, iI_i2l, lI_l2i, lI_add, lI_sub, lI_mul, lI_neg, lI_div, lI_or, lI_and, lI_shl, lI_shr, nI_iI, lg_lt0, lg_gt0, lg_eq0, i_ne0', l_ne0', iI_lt, iI_le, iI_eq, lI_lt, lI_le, lI_eq, zb_0, zb_fit, zb_fit0, zb_fit1, i_one_zero, i_w_in, z_tb0, z_tb1, z_tb2, z_tb3, z_tb4, z_tb5, z_tb6, z_tb7, z_tb8, z_tbl, z_tu0, z_tu1, z_tu2, z_i_62, z_i_63, z_i_86, z_i_88, z_l_Y, z_ui_62, z_ui_63, z_ui_86, z_ui_88, z_ul_Y, z_sz_Y, z_sw_Y, iI_nat, z_ix_t, z_at, Int.add_zero, Int.sub_zero, Int.zero_add, Int.mul_zero, ne_eq, Bool.false_eq_true, Bool.true_eq_false, reduceCtorEq, eq_self, and_true, true_and, and_false, false_and, and_self, not_true_eq_false, not_false_eq_true, decide_true, decide_false, ↓reduceIte, Int.reduceEq, Int.reduceNe, Int.reduceLT, Int.reduceLE, Int.reduceAdd, Int.reduceSub, Int.reduceMul, Int.reduceNeg, Nat.reduceAdd, Nat.reduceEqDiff, Nat.reduceBEq, ↓z_x_eq, z_g_t, z_bI_s, z_bL_s, z_bR_s, z_bV_s, Int.cast_ofNat_Int, beq_self_eq_true, Bool.and_true, Bool.true_and, Bool.and_self, Bool.or_true, Bool.true_or, Bool.false_and, Bool.and_false, Bool.false_or, Bool.or_false, Bool.not_false, Bool.not_true, if_true, if_false, ite_true, ite_false, z_up_eq, z_up_app, z_ro_eq, zb_t]
      exact ih _ V1 s1 hv1
/-- the sets of ushers by which a note holds -/
def u_sets (A X : Int → Int) (n : Int) : Int := z_bor 16 0 (fun us => m_holds A X (A 6) n (m_air0 (z_ro A 8 us) X (A (82 + 2 * n))) (A (82 + 2 * n))) 0
theorem p_sets (d : Nat) (T : ZT) (G G' : ZG) (s : ZG × ZG) {k n : Int} (hQ : c_q T G) (hu : u_st G G' k) (hk : G 61 5 + k ≤ 90000) (hn : 0 ≤ n ∧ n < G 81 2) : z_ok (z_call (d + 6) 256 [vr 66, vi (iI n)] (z_Y T G' s)) (fun y τ => y = vi (iI (u_sets (G 81) (G 83) n)) ∧ ∃ G2 s', τ = z_Y T G2 s' ∧ u_st G G2 (k + 1) ∧ u_nt G G2 n) := by
  have mn := mo_n hQ.1.1 n hn.1 hn.2
  have m2 := hQ.1.1.2.2.1
  have hQ' := u_cq hQ hu
  have e81 : G' 81 = G 81 := hu.1 81 (by omega) (by omega) (by omega) (by omega)
  have e83 : G' 83 = G 83 := hu.1 83 (by omega) (by omega) (by omega) (by omega)
  have q2 := (cw_n hQ'.1 n hn.1 (by rw [e81]; exact hn.2)).1
  rw [e81] at q2
  rw [e_Qu_setsThatHold]
  simp -implicitDefEqProofs (disch := first | assumption | omega | rfl | (simp only [z_up_eq, z_up_app, ↓reduceIte, Nat.reduceEqDiff]; omega)) only [z_lit0, z_lit1, z_lit2, z_litl, iI_add, iI_sub, iI_mul, iI_neg, iI_and, iI_or, iI_xor, iI_shl, iI_shr, iI_ushr, iI_div, iI_b, iI_c, iI_i2l, lI_l2i, lI_add, lI_sub, lI_mul, lI_neg, lI_div, lI_or, lI_and, lI_shl, lI_shr, nI_iI, lg_lt0, lg_gt0, lg_eq0, i_ne0', l_ne0', iI_lt, iI_le, iI_eq, lI_lt, lI_le, lI_eq, zb_0, zb_fit, zb_fit0, zb_fit1, i_one_zero, i_w_in, z_tb0, z_tb1, z_tb2, z_tb3, z_tb4, z_tb5, z_tb6, z_tb7, z_tb8, z_tbl, z_tu0, z_tu1, z_tu2, z_i_62, z_i_63, z_i_86, z_i_88, z_l_Y, z_ui_62, z_ui_63, z_ui_86, z_ui_88, z_ul_Y, z_sz_Y, z_sw_Y, iI_nat, z_ix_t, z_at, Int.add_zero, Int.sub_zero, Int.zero_add, Int.mul_zero, ne_eq, Bool.false_eq_true, Bool.true_eq_false, reduceCtorEq, eq_self, and_true, true_and, and_false, false_and, and_self, not_true_eq_false, not_false_eq_true, decide_true, decide_false, ↓reduceIte, Int.reduceEq, Int.reduceNe, Int.reduceLT, Int.reduceLE, Int.reduceAdd, Int.reduceSub, Int.reduceMul, Int.reduceNeg, Nat.reduceAdd, Nat.reduceEqDiff, Nat.reduceBEq, ↓z_x_eq, z_g_t, z_bI_s, z_bL_s, z_bR_s, z_bV_s, Int.cast_ofNat_Int, beq_self_eq_true, Bool.and_true, Bool.true_and, Bool.and_self, Bool.or_true, Bool.true_or, Bool.false_and, Bool.and_false, Bool.false_or, Bool.or_false, Bool.not_false, Bool.not_true, if_true, if_false, ite_true, ite_false, z_up_eq, z_up_app, z_ro_eq, q2]
  refine ok_pV (p_blk d T G' s hQ' (be := G 81 (82 + 2 * n)) (by omega)) ?_
  rintro y τ ⟨rfl, B, C, s1, rfl, hB⟩
  refine ⟨_, rfl, ?_⟩
  rw [e81, e83] at hB
  have pa := fun s => p_askOf (d + 4) T (u_g G' B C) s (n := n)
  simp -implicitDefEqProofs (disch := first | assumption | omega | rfl | (simp only [z_up_eq, z_up_app, ↓reduceIte, Nat.reduceEqDiff]; omega)) only [z_lit0, z_lit1, z_lit2, z_litl, iI_add, iI_sub, iI_mul, iI_neg, iI_and, iI_or, iI_xor, iI_shl, iI_shr, iI_ushr, iI_div, iI_b, iI_c, iI_i2l, lI_l2i, lI_add, lI_sub, lI_mul, lI_neg, lI_div, lI_or, lI_and, lI_shl, lI_shr, nI_iI, lg_lt0, lg_gt0, lg_eq0, i_ne0', l_ne0', iI_lt, iI_le, iI_eq, lI_lt, lI_le, lI_eq, zb_0, zb_fit, zb_fit0, zb_fit1, i_one_zero, i_w_in, z_tb0, z_tb1, z_tb2, z_tb3, z_tb4, z_tb5, z_tb6, z_tb7, z_tb8, z_tbl, z_tu0, z_tu1, z_tu2, z_i_62, z_i_63, z_i_86, z_i_88, z_l_Y, z_ui_62, z_ui_63, z_ui_86, z_ui_88, z_ul_Y, z_sz_Y, z_sw_Y, iI_nat, z_ix_t, z_at, Int.add_zero, Int.sub_zero, Int.zero_add, Int.mul_zero, ne_eq, Bool.false_eq_true, Bool.true_eq_false, reduceCtorEq, eq_self, and_true, true_and, and_false, false_and, and_self, not_true_eq_false, not_false_eq_true, decide_true, decide_false, ↓reduceIte, Int.reduceEq, Int.reduceNe, Int.reduceLT, Int.reduceLE, Int.reduceAdd, Int.reduceSub, Int.reduceMul, Int.reduceNeg, Nat.reduceAdd, Nat.reduceEqDiff, Nat.reduceBEq, ↓z_x_eq, z_g_t, z_bI_s, z_bL_s, z_bR_s, z_bV_s, Int.cast_ofNat_Int, beq_self_eq_true, Bool.and_true, Bool.true_and, Bool.and_self, Bool.or_true, Bool.true_or, Bool.false_and, Bool.and_false, Bool.false_or, Bool.or_false, Bool.not_false, Bool.not_true, if_true, if_false, ite_true, ite_false, z_up_eq, z_up_app, z_ro_eq, pa, z_up_cm]
  obtain ⟨u1, u2, u3, u4⟩ := hu
  have hu2 : u_st G (z_up (u_g G' B C) 61 (z_ro (z_ro (G' 61) 5 (G' 61 5 + 1)) 6 n)) (k + 1) := by
    refine ⟨fun r a b c e => ?_, ?_, ?_, fun i a b => ?_⟩
    · rw [z_up_ne _ _ a, show u_g G' B C r = G' r from by unfold u_g; rw [z_up_ne _ _ e, z_up_ne _ _ c]]; exact u1 r a b c e
    · rw [z_up_eq, z_ro_ne _ _ (by omega), z_ro_eq]; omega
    · rw [z_up_eq, z_ro_ne _ _ (by omega), z_ro_eq]; omega
    · have := u4 i a b
      rw [z_up_eq, z_ro_ne _ _ (show (5 : Int) ≠ 6 by omega), z_ro_eq, z_up_ne _ _ (show 64 ≠ 61 by omega), show u_g G' B C 64 = G' 64 from by unfold u_g; rw [z_up_ne _ _ (by omega), z_up_ne _ _ (by omega)]]
      omega
  have nf : z_up (u_g G' B C) 61 (z_ro (z_ro (G' 61) 5 (G' 61 5 + 1)) 6 n) = z_up (z_up (z_up G' 61 (z_ro (z_ro (G' 61) 5 (G' 61 5 + 1)) 6 n)) 68 B) 69 C := by
    unfold u_g
    rw [z_up_cm _ _ _ (show 61 < 69 by omega), z_up_cm _ _ _ (show 61 < 68 by omega)]
  rw [nf] at hu2
  generalize hG2 : z_up (z_up (z_up G' 61 (z_ro (z_ro (G' 61) 5 (G' 61 5 + 1)) 6 n)) 68 B) 69 C = G2 at *
  have r61 : G2 61 = z_ro (z_ro (G' 61) 5 (G' 61 5 + 1)) 6 n := by rw [← hG2, z_up_ne _ _ (by omega), z_up_ne _ _ (by omega), z_up_eq]
  have r64 : G2 64 = G' 64 := by rw [← hG2, z_up_ne _ _ (by omega), z_up_ne _ _ (by omega), z_up_ne _ _ (by omega)]
  have r68 : G2 68 = B := by rw [← hG2, z_up_ne _ _ (by omega), z_up_eq]
  have r69 : G2 69 = C := by rw [← hG2, z_up_eq]
  have f81 : G2 81 = G 81 := hu2.1 81 (by omega) (by omega) (by omega) (by omega)
  have f83 : G2 83 = G 83 := hu2.1 83 (by omega) (by omega) (by omega) (by omega)
  have hv : v_ok G2 n (G2 64) := by
    unfold v_ok
    rw [r61, r64, f81, f83, z_ro_eq, z_ro_ne _ _ (show (5 : Int) ≠ 6 by omega), z_ro_eq]
    exact ⟨rfl, hn, by omega, fun i a b => ⟨by have := u4 i a b; omega, fun e => by have := u4 i a b; omega⟩⟩
  have w := p_sets_l (d + 1) T G G2 hQ hu2 hn (by rw [r68, r69]; exact hB) 16 0 0 (G2 64) s1 (by omega) (by omega) hv
  rw [z_up_id] at w
  refine ok_mono w ?_
  rintro y τ ⟨rfl, V, s2, rfl, hv2⟩
  have g61 : z_up G2 64 V 61 = G2 61 := z_up_ne _ _ (by omega)
  refine ⟨rfl, _, s2, rfl, ⟨fun r a b c e => ?_, ?_, ?_, fun i a b => ?_⟩, ?_, ?_⟩
  · rw [z_up_ne _ _ b]; exact hu2.1 r a b c e
  · rw [g61]; exact hu2.2.1
  · rw [g61]; exact hu2.2.2.1
  · rw [g61, z_up_eq]; exact (hv2.2.2.2 i a b).1
  · unfold v_ok at *
    rw [g61, z_up_eq, z_up_ne _ _ (show 81 ≠ 64 by omega), z_up_ne _ _ (show 83 ≠ 64 by omega)]
    exact hv2
  · rw [z_up_ne _ _ (show 68 ≠ 64 by omega), z_up_ne _ _ (show 69 ≠ 64 by omega), r68, r69]; exact hB

/-! THE PURE PART, 74: tokens; the class's scan -/
theorem y_shl6n : ∀ a : Nat, a < 101 → ∀ b : Nat, b < 100 → i_shl (100 * a + b : Nat) 6 = 64 * (100 * a + b : Nat) := by decide +kernel
theorem y_shl6 {n : Int} (h : 0 ≤ n ∧ n ≤ 10000) : i_shl n 6 = 64 * n := by
  have := y_shl6n (n.toNat / 100) (by omega) (n.toNat % 100) (by omega)
  rwa [show 100 * (n.toNat / 100) + n.toNat % 100 = n.toNat by omega, show ((n.toNat : Nat) : Int) = n by omega] at this
def y_si : List Int → Int → Int → Int
  | [], _, _ => -1
  | c :: cs, i, b => if b = c then i else y_si cs (i + 1) b
theorem y_si_in : ∀ (cs : List Int) (i b : Int), y_si cs i b = -1 ∨ (i ≤ y_si cs i b ∧ y_si cs i b < i + cs.length)
  | [], _, _ => Or.inl rfl
  | c :: cs, i, b => by
    show (if b = c then i else y_si cs (i + 1) b) = -1 ∨ (i ≤ (if b = c then i else y_si cs (i + 1) b) ∧ (if b = c then i else y_si cs (i + 1) b) < i + ((cs.length + 1 : Nat) : Int))
    split
    · exact Or.inr ⟨by omega, by omega⟩
    · rcases y_si_in cs (i + 1) b with h | h
      · exact Or.inl h
      · exact Or.inr ⟨by omega, by omega⟩
theorem p_sgl (d : Nat) (T : ZT) (G : ZG) (s : ZG × ZG) {b : Int} (hS : y_S G) (hb : 0 ≤ b ∧ b ≤ 255) : ∀ (cs : List Int) (i : Int), 0 ≤ i → i + cs.length = 13 → (∀ q : Nat, q < cs.length → y_sg.getD (i.toNat + q) 0 = cs.getD q 0) → z_w d_Sl_indexOfChar (z_call d) 7 [some (vr 4), none, none, some (vi (iI 13)), some (vi (iI (y_sb b))), some (vi (iI i))] [] (z_Y T G s) = some (vi (iI (y_si cs i b)), z_Y T G s)
  | [], i, h0, h, hc => by
    have c : (i < 13) = False := eq_false (by have : i + 0 = 13 := h; omega)
    rw [e_Sl_indexOfChar_7]
    simp -implicitDefEqProofs (disch := first | assumption | omega | rfl | (simp only [z_up_eq, z_up_app, ↓reduceIte, Nat.reduceEqDiff]; omega)) only [z_lit0, z_lit1, z_lit2, z_litl, iI_add, iI_sub, iI_mul, iI_neg, iI_and, iI_or, iI_xor, iI_shl, iI_shr, iI_ushr, iI_div, iI_b, iI_c, iI_i2l, lI_l2i, lI_add, lI_sub, lI_mul, lI_neg, lI_div, lI_or, lI_and, lI_shl, lI_shr, nI_iI, lg_lt0, lg_gt0, lg_eq0, i_ne0', l_ne0', iI_lt, iI_le, iI_eq, lI_lt, lI_le, lI_eq, zb_0, zb_fit, zb_fit0, zb_fit1, i_one_zero, i_w_in, z_tb0, z_tb1, z_tb2, z_tb3, z_tb4, z_tb5, z_tb6, z_tb7, z_tb8, z_tbl, z_tu0, z_tu1, z_tu2, z_i_62, z_i_63, z_i_86, z_i_88, z_l_Y, z_ui_62, z_ui_63, z_ui_86, z_ui_88, z_ul_Y, z_sz_Y, z_sw_Y, iI_nat, z_ix_t, z_at, Int.add_zero, Int.sub_zero, Int.zero_add, Int.mul_zero, ne_eq, Bool.false_eq_true, Bool.true_eq_false, reduceCtorEq, eq_self, and_true, true_and, and_false, false_and, and_self, not_true_eq_false, not_false_eq_true, decide_true, decide_false, ↓reduceIte, Int.reduceEq, Int.reduceNe, Int.reduceLT, Int.reduceLE, Int.reduceAdd, Int.reduceSub, Int.reduceMul, Int.reduceNeg, Nat.reduceAdd, Nat.reduceEqDiff, Nat.reduceBEq, ↓z_x_eq, z_g_t, z_bI_s, z_bL_s, z_bR_s, z_bV_s, Int.cast_ofNat_Int, beq_self_eq_true, Bool.and_true, Bool.true_and, Bool.and_self, Bool.or_true, Bool.true_or, Bool.false_and, Bool.and_false, Bool.false_or, Bool.or_false, Bool.not_false, Bool.not_true, if_true, if_false, ite_true, ite_false, z_up_eq, z_up_app, z_ro_eq, c]
    rfl
  | c :: cs, i, h0, h, hc => by
    have hlen : ((c :: cs).length : Int) = cs.length + 1 := by simp
    rw [hlen] at h
    have ci : (i < 13) = True := eq_true (by omega)
    have hc0 := hc 0 (by simp)
    rw [Nat.add_zero, show (c :: cs).getD 0 0 = c from rfl] at hc0
    have e := hS.2.2.1 i h0 (by omega)
    rw [hc0] at e
    have hb2 := y_sg_in i.toNat (by omega)
    rw [hc0] at hb2
    have sb := y_sb_in hb
    have em := y_sb_eq (c := c) hb (by omega)
    have em' : (c = y_sb b) = (b = c) := by rw [← em]; exact propext eq_comm
    have ez : y_si (c :: cs) i b = if b = c then i else y_si cs (i + 1) b := rfl
    rw [ez, e_Sl_indexOfChar_7]
    by_cases q : b = c
    · have q' : (b = c) = True := eq_true q
      rw [if_pos q]
      simp -implicitDefEqProofs (disch := first | assumption | omega | rfl | (simp only [z_up_eq, z_up_app, ↓reduceIte, Nat.reduceEqDiff]; omega)) only [z_lit0, z_lit1, z_lit2, z_litl, iI_add, iI_sub, iI_mul, iI_neg, iI_and, iI_or, iI_xor, iI_shl, iI_shr, iI_ushr, iI_div, iI_b, iI_c, iI_i2l, lI_l2i, lI_add, lI_sub, lI_mul, lI_neg, lI_div, lI_or, lI_and, lI_shl, lI_shr, nI_iI, lg_lt0, lg_gt0, lg_eq0, i_ne0', l_ne0', iI_lt, iI_le, iI_eq, lI_lt, lI_le, lI_eq, zb_0, zb_fit, zb_fit0, zb_fit1, i_one_zero, i_w_in, z_tb0, z_tb1, z_tb2, z_tb3, z_tb4, z_tb5, z_tb6, z_tb7, z_tb8, z_tbl, z_tu0, z_tu1, z_tu2, z_i_62, z_i_63, z_i_86, z_i_88, z_l_Y, z_ui_62, z_ui_63, z_ui_86, z_ui_88, z_ul_Y, z_sz_Y, z_sw_Y, iI_nat, z_ix_t, z_at, Int.add_zero, Int.sub_zero, Int.zero_add, Int.mul_zero, ne_eq, Bool.false_eq_true, Bool.true_eq_false, reduceCtorEq, eq_self, and_true, true_and, and_false, false_and, and_self, not_true_eq_false, not_false_eq_true, decide_true, decide_false, ↓reduceIte, Int.reduceEq, Int.reduceNe, Int.reduceLT, Int.reduceLE, Int.reduceAdd, Int.reduceSub, Int.reduceMul, Int.reduceNeg, Nat.reduceAdd, Nat.reduceEqDiff, Nat.reduceBEq, ↓z_x_eq, z_g_t, z_bI_s, z_bL_s, z_bR_s, z_bV_s, Int.cast_ofNat_Int, beq_self_eq_true, Bool.and_true, Bool.true_and, Bool.and_self, Bool.or_true, Bool.true_or, Bool.false_and, Bool.and_false, Bool.false_or, Bool.or_false, Bool.not_false, Bool.not_true, if_true, if_false, ite_true, ite_false, z_up_eq, z_up_app, z_ro_eq, ci, e, em', q']
    · have q' : (b = c) = False := eq_false q
      rw [if_neg q]
      have ih := p_sgl d T G s hS hb cs (i + 1) (by omega) (by omega) (fun q a => by
        have := hc (q + 1) (by simp; omega)
        rw [show (i + 1).toNat + q = i.toNat + (q + 1) by omega, this]; rfl)
      simp -implicitDefEqProofs (disch := first | assumption | omega | rfl | (simp only [z_up_eq, z_up_app, ↓reduceIte, Nat.reduceEqDiff]; omega)) only [z_lit0, z_lit1, z_lit2, z_litl, iI_add, iI_sub, iI_mul, iI_neg, iI_and, iI_or, iI_xor, iI_shl, iI_shr, iI_ushr, iI_div, iI_b, iI_c, iI_i2l, lI_l2i, lI_add, lI_sub, lI_mul, lI_neg, lI_div, lI_or, lI_and, lI_shl, lI_shr, nI_iI, lg_lt0, lg_gt0, lg_eq0, i_ne0', l_ne0', iI_lt, iI_le, iI_eq, lI_lt, lI_le, lI_eq, zb_0, zb_fit, zb_fit0, zb_fit1, i_one_zero, i_w_in, z_tb0, z_tb1, z_tb2, z_tb3, z_tb4, z_tb5, z_tb6, z_tb7, z_tb8, z_tbl, z_tu0, z_tu1, z_tu2, z_i_62, z_i_63, z_i_86, z_i_88, z_l_Y, z_ui_62, z_ui_63, z_ui_86, z_ui_88, z_ul_Y, z_sz_Y, z_sw_Y, iI_nat, z_ix_t, z_at, Int.add_zero, Int.sub_zero, Int.zero_add, Int.mul_zero, ne_eq, Bool.false_eq_true, Bool.true_eq_false, reduceCtorEq, eq_self, and_true, true_and, and_false, false_and, and_self, not_true_eq_false, not_false_eq_true, decide_true, decide_false, ↓reduceIte, Int.reduceEq, Int.reduceNe, Int.reduceLT, Int.reduceLE, Int.reduceAdd, Int.reduceSub, Int.reduceMul, Int.reduceNeg, Nat.reduceAdd, Nat.reduceEqDiff, Nat.reduceBEq, ↓z_x_eq, z_g_t, z_bI_s, z_bL_s, z_bR_s, z_bV_s, Int.cast_ofNat_Int, beq_self_eq_true, Bool.and_true, Bool.true_and, Bool.and_self, Bool.or_true, Bool.true_or, Bool.false_and, Bool.and_false, Bool.false_or, Bool.or_false, Bool.not_false, Bool.not_true, if_true, if_false, ite_true, ite_false, z_up_eq, z_up_app, z_ro_eq, ci, e, em', q', ih]
theorem p_sgs (d : Nat) (T : ZT) (G : ZG) (s : ZG × ZG) {b : Int} (hS : y_S G) (hb : 0 ≤ b ∧ b ≤ 255) : z_call (d + 4) 52 [vr 3, vi (iI b)] (z_Y T G s) = some (vi (iI (y_si y_sg 0 b)), z_Y T G s) := by
  have h3 := hS.1
  have e := p_sgl d T G s hS hb y_sg 0 (by omega) rfl (fun q _ => by rw [show (0 : Int).toNat + q = q by omega])
  have c1 : (b < 0) = False := eq_false (by omega)
  have c2 : (255 < b) = False := eq_false (by omega)
  have e8 := y_i8s hb
  have sh : i_shr 13 0 = 13 := by decide
  have mi : min (13 : Int) 13 = 13 := by decide
  have mx : max (0 : Int) 0 = 0 := by decide
  rw [e_Sg_indexOf_I]
  simp -implicitDefEqProofs (disch := first | assumption | omega | rfl | (simp only [z_up_eq, z_up_app, ↓reduceIte, Nat.reduceEqDiff]; omega)) only [z_lit0, z_lit1, z_lit2, z_litl, iI_add, iI_sub, iI_mul, iI_neg, iI_and, iI_or, iI_xor, iI_shl, iI_shr, iI_ushr, iI_div, iI_b, iI_c, iI_i2l, lI_l2i, lI_add, lI_sub, lI_mul, lI_neg, lI_div, lI_or, lI_and, lI_shl, lI_shr, nI_iI, lg_lt0, lg_gt0, lg_eq0, i_ne0', l_ne0', iI_lt, iI_le, iI_eq, lI_lt, lI_le, lI_eq, zb_0, zb_fit, zb_fit0, zb_fit1, i_one_zero, i_w_in, z_tb0, z_tb1, z_tb2, z_tb3, z_tb4, z_tb5, z_tb6, z_tb7, z_tb8, z_tbl, z_tu0, z_tu1, z_tu2, z_i_62, z_i_63, z_i_86, z_i_88, z_l_Y, z_ui_62, z_ui_63, z_ui_86, z_ui_88, z_ul_Y, z_sz_Y, z_sw_Y, iI_nat, z_ix_t, z_at, Int.add_zero, Int.sub_zero, Int.zero_add, Int.mul_zero, ne_eq, Bool.false_eq_true, Bool.true_eq_false, reduceCtorEq, eq_self, and_true, true_and, and_false, false_and, and_self, not_true_eq_false, not_false_eq_true, decide_true, decide_false, ↓reduceIte, Int.reduceEq, Int.reduceNe, Int.reduceLT, Int.reduceLE, Int.reduceAdd, Int.reduceSub, Int.reduceMul, Int.reduceNeg, Nat.reduceAdd, Nat.reduceEqDiff, Nat.reduceBEq, ↓z_x_eq, z_g_t, z_bI_s, z_bL_s, z_bR_s, z_bV_s, Int.cast_ofNat_Int, beq_self_eq_true, Bool.and_true, Bool.true_and, Bool.and_self, Bool.or_true, Bool.true_or, Bool.false_and, Bool.and_false, Bool.false_or, Bool.or_false, Bool.not_false, Bool.not_true, if_true, if_false, ite_true, ite_false, z_up_eq, z_up_app, z_ro_eq, e_Sg_indexOf_II, e_Sg_isLatin1, h3, e_Sg_length, e_Sg_coder, y_f6, sh, e_Sl_indexOf, e_Sl_canEncode, c1, c2, p_max, p_min, mi, mx, e_Sl_indexOfChar, e8, e]
def y_tok (B : Int → Int) (L p : Int) : Int := if y_let (B p) = true then y_word B p (y_end B L p) else if y_dig (B p) = true then 2 + 64 * y_num B (y_end B L p - p).toNat p 0 else if p + 1 < y_end B L p then (if B p = 60 then 16 else 17) else (if y_si y_sg 0 (B p) < 0 then 1 else 3 + y_si y_sg 0 (B p))
theorem p_tok (d : Nat) (T : ZT) (G : ZG) (s : ZG × ZG) {B : Int → Int} {L p : Int} (hS : y_S G) (hB : y_tp G B L) (hp : 0 ≤ p ∧ p < L) : z_call (d + 6) 53 [vr 55, vi (iI p), vi (iI (y_end B L p))] (z_Y T G s) = some (vi (iI (y_tok B L p)), z_Y T G s) := by
  have hL := hB.1
  have hb := hB.2 p hp.1 hp.2
  have e := hb.2
  have sb := y_sb_in hb.1
  have pl := fun σ => p_isLet (d + 4) (x := y_sb (B p)) σ ⟨by omega, by omega⟩
  have pd := fun σ => p_isDig (d + 4) (x := y_sb (B p)) σ ⟨by omega, by omega⟩
  rw [y_sb_let hb.1] at pl
  rw [y_sb_dig hb.1] at pd
  have en := y_end_in (B := B) hp.2
  have e60 := y_sb_eq (c := 60) hb.1 (by omega)
  have hen : y_dig (B p) = true → y_let (B p) = false → ∀ k, p ≤ k → k < y_end B L p → y_dig (B k) = true := fun h1 h2 k a b => by
    by_cases q : k = p
    · rw [q]; exact h1
    · unfold y_end at b
      rw [h2, h1, if_neg (by decide), if_pos rfl] at b
      exact (y_go_in (P := y_dig) (B := B) (L := L) (p := p + 1) (by omega)).2.2.1 k (by omega) b
  unfold y_tok
  generalize y_end B L p = t at *
  rw [e_Re_tokenOf]
  cases q : y_let (B p)
  · rw [q] at pl
    rw [if_neg (by decide)]
    cases q2 : y_dig (B p)
    · rw [q2] at pd
      rw [if_neg (by decide)]
      by_cases c1 : p + 1 < t
      · have c1' : (p + 1 < t) = True := eq_true c1
        rw [if_pos c1]
        by_cases c2 : B p = 60
        · have c2' : (B p = 60) = True := eq_true c2
          rw [if_pos c2]
          simp -implicitDefEqProofs (disch := first | assumption | omega | rfl | (simp only [z_up_eq, z_up_app, ↓reduceIte, Nat.reduceEqDiff]; omega)) only [z_lit0, z_lit1, z_lit2, z_litl, iI_add, iI_sub, iI_mul, iI_neg, iI_and, iI_or, iI_xor, iI_shl, iI_shr, iI_ushr, iI_div, iI_b, iI_c, iI_i2l, lI_l2i, lI_add, lI_sub, lI_mul, lI_neg, lI_div, lI_or, lI_and, lI_shl, lI_shr, nI_iI, lg_lt0, lg_gt0, lg_eq0, i_ne0', l_ne0', iI_lt, iI_le, iI_eq, lI_lt, lI_le, lI_eq, zb_0, zb_fit, zb_fit0, zb_fit1, i_one_zero, i_w_in, z_tb0, z_tb1, z_tb2, z_tb3, z_tb4, z_tb5, z_tb6, z_tb7, z_tb8, z_tbl, z_tu0, z_tu1, z_tu2, z_i_62, z_i_63, z_i_86, z_i_88, z_l_Y, z_ui_62, z_ui_63, z_ui_86, z_ui_88, z_ul_Y, z_sz_Y, z_sw_Y, iI_nat, z_ix_t, z_at, Int.add_zero, Int.sub_zero, Int.zero_add, Int.mul_zero, ne_eq, Bool.false_eq_true, Bool.true_eq_false, reduceCtorEq, eq_self, and_true, true_and, and_false, false_and, and_self, not_true_eq_false, not_false_eq_true, decide_true, decide_false, ↓reduceIte, Int.reduceEq, Int.reduceNe, Int.reduceLT, Int.reduceLE, Int.reduceAdd, Int.reduceSub, Int.reduceMul, Int.reduceNeg, Nat.reduceAdd, Nat.reduceEqDiff, Nat.reduceBEq, ↓z_x_eq, z_g_t, z_bI_s, z_bL_s, z_bR_s, z_bV_s, Int.cast_ofNat_Int, beq_self_eq_true, Bool.and_true, Bool.true_and, Bool.and_self, Bool.or_true, Bool.true_or, Bool.false_and, Bool.and_false, Bool.false_or, Bool.or_false, Bool.not_false, Bool.not_true, if_true, if_false, ite_true, ite_false, z_up_eq, z_up_app, z_ro_eq, e, pl, zb_f, pd, c1', e60, c2']
        · have c2' : (B p = 60) = False := eq_false c2
          rw [if_neg c2]
          simp -implicitDefEqProofs (disch := first | assumption | omega | rfl | (simp only [z_up_eq, z_up_app, ↓reduceIte, Nat.reduceEqDiff]; omega)) only [z_lit0, z_lit1, z_lit2, z_litl, iI_add, iI_sub, iI_mul, iI_neg, iI_and, iI_or, iI_xor, iI_shl, iI_shr, iI_ushr, iI_div, iI_b, iI_c, iI_i2l, lI_l2i, lI_add, lI_sub, lI_mul, lI_neg, lI_div, lI_or, lI_and, lI_shl, lI_shr, nI_iI, lg_lt0, lg_gt0, lg_eq0, i_ne0', l_ne0', iI_lt, iI_le, iI_eq, lI_lt, lI_le, lI_eq, zb_0, zb_fit, zb_fit0, zb_fit1, i_one_zero, i_w_in, z_tb0, z_tb1, z_tb2, z_tb3, z_tb4, z_tb5, z_tb6, z_tb7, z_tb8, z_tbl, z_tu0, z_tu1, z_tu2, z_i_62, z_i_63, z_i_86, z_i_88, z_l_Y, z_ui_62, z_ui_63, z_ui_86, z_ui_88, z_ul_Y, z_sz_Y, z_sw_Y, iI_nat, z_ix_t, z_at, Int.add_zero, Int.sub_zero, Int.zero_add, Int.mul_zero, ne_eq, Bool.false_eq_true, Bool.true_eq_false, reduceCtorEq, eq_self, and_true, true_and, and_false, false_and, and_self, not_true_eq_false, not_false_eq_true, decide_true, decide_false, ↓reduceIte, Int.reduceEq, Int.reduceNe, Int.reduceLT, Int.reduceLE, Int.reduceAdd, Int.reduceSub, Int.reduceMul, Int.reduceNeg, Nat.reduceAdd, Nat.reduceEqDiff, Nat.reduceBEq, ↓z_x_eq, z_g_t, z_bI_s, z_bL_s, z_bR_s, z_bV_s, Int.cast_ofNat_Int, beq_self_eq_true, Bool.and_true, Bool.true_and, Bool.and_self, Bool.or_true, Bool.true_or, Bool.false_and, Bool.and_false, Bool.false_or, Bool.or_false, Bool.not_false, Bool.not_true, if_true, if_false, ite_true, ite_false, z_up_eq, z_up_app, z_ro_eq, e, pl, zb_f, pd, c1', e60, c2']
      · have c1' : (p + 1 < t) = False := eq_false c1
        rw [if_neg c1]
        have sg := p_sgs (d + 1) T G s hS hb.1
        have ch := y_chs hb.1
        have si := y_si_in y_sg 0 (B p)
        have l13 : (y_sg.length : Int) = 13 := rfl
        rw [l13] at si
        generalize y_si y_sg 0 (B p) = k at *
        by_cases c2 : k < 0
        · have c2' : (k < 0) = True := eq_true c2
          rw [if_pos c2]
          simp -implicitDefEqProofs (disch := first | assumption | omega | rfl | (simp only [z_up_eq, z_up_app, ↓reduceIte, Nat.reduceEqDiff]; omega)) only [z_lit0, z_lit1, z_lit2, z_litl, iI_add, iI_sub, iI_mul, iI_neg, iI_and, iI_or, iI_xor, iI_shl, iI_shr, iI_ushr, iI_div, iI_b, iI_c, iI_i2l, lI_l2i, lI_add, lI_sub, lI_mul, lI_neg, lI_div, lI_or, lI_and, lI_shl, lI_shr, nI_iI, lg_lt0, lg_gt0, lg_eq0, i_ne0', l_ne0', iI_lt, iI_le, iI_eq, lI_lt, lI_le, lI_eq, zb_0, zb_fit, zb_fit0, zb_fit1, i_one_zero, i_w_in, z_tb0, z_tb1, z_tb2, z_tb3, z_tb4, z_tb5, z_tb6, z_tb7, z_tb8, z_tbl, z_tu0, z_tu1, z_tu2, z_i_62, z_i_63, z_i_86, z_i_88, z_l_Y, z_ui_62, z_ui_63, z_ui_86, z_ui_88, z_ul_Y, z_sz_Y, z_sw_Y, iI_nat, z_ix_t, z_at, Int.add_zero, Int.sub_zero, Int.zero_add, Int.mul_zero, ne_eq, Bool.false_eq_true, Bool.true_eq_false, reduceCtorEq, eq_self, and_true, true_and, and_false, false_and, and_self, not_true_eq_false, not_false_eq_true, decide_true, decide_false, ↓reduceIte, Int.reduceEq, Int.reduceNe, Int.reduceLT, Int.reduceLE, Int.reduceAdd, Int.reduceSub, Int.reduceMul, Int.reduceNeg, Nat.reduceAdd, Nat.reduceEqDiff, Nat.reduceBEq, ↓z_x_eq, z_g_t, z_bI_s, z_bL_s, z_bR_s, z_bV_s, Int.cast_ofNat_Int, beq_self_eq_true, Bool.and_true, Bool.true_and, Bool.and_self, Bool.or_true, Bool.true_or, Bool.false_and, Bool.and_false, Bool.false_or, Bool.or_false, Bool.not_false, Bool.not_true, if_true, if_false, ite_true, ite_false, z_up_eq, z_up_app, z_ro_eq, e, pl, zb_f, pd, c1', ch, sg, c2']
        · have c2' : (k < 0) = False := eq_false c2
          rw [if_neg c2]
          simp -implicitDefEqProofs (disch := first | assumption | omega | rfl | (simp only [z_up_eq, z_up_app, ↓reduceIte, Nat.reduceEqDiff]; omega)) only [z_lit0, z_lit1, z_lit2, z_litl, iI_add, iI_sub, iI_mul, iI_neg, iI_and, iI_or, iI_xor, iI_shl, iI_shr, iI_ushr, iI_div, iI_b, iI_c, iI_i2l, lI_l2i, lI_add, lI_sub, lI_mul, lI_neg, lI_div, lI_or, lI_and, lI_shl, lI_shr, nI_iI, lg_lt0, lg_gt0, lg_eq0, i_ne0', l_ne0', iI_lt, iI_le, iI_eq, lI_lt, lI_le, lI_eq, zb_0, zb_fit, zb_fit0, zb_fit1, i_one_zero, i_w_in, z_tb0, z_tb1, z_tb2, z_tb3, z_tb4, z_tb5, z_tb6, z_tb7, z_tb8, z_tbl, z_tu0, z_tu1, z_tu2, z_i_62, z_i_63, z_i_86, z_i_88, z_l_Y, z_ui_62, z_ui_63, z_ui_86, z_ui_88, z_ul_Y, z_sz_Y, z_sw_Y, iI_nat, z_ix_t, z_at, Int.add_zero, Int.sub_zero, Int.zero_add, Int.mul_zero, ne_eq, Bool.false_eq_true, Bool.true_eq_false, reduceCtorEq, eq_self, and_true, true_and, and_false, false_and, and_self, not_true_eq_false, not_false_eq_true, decide_true, decide_false, ↓reduceIte, Int.reduceEq, Int.reduceNe, Int.reduceLT, Int.reduceLE, Int.reduceAdd, Int.reduceSub, Int.reduceMul, Int.reduceNeg, Nat.reduceAdd, Nat.reduceEqDiff, Nat.reduceBEq, ↓z_x_eq, z_g_t, z_bI_s, z_bL_s, z_bR_s, z_bV_s, Int.cast_ofNat_Int, beq_self_eq_true, Bool.and_true, Bool.true_and, Bool.and_self, Bool.or_true, Bool.true_or, Bool.false_and, Bool.and_false, Bool.false_or, Bool.or_false, Bool.not_false, Bool.not_true, if_true, if_false, ite_true, ite_false, z_up_eq, z_up_app, z_ro_eq, e, pl, zb_f, pd, c1', ch, sg, c2']
    · rw [q2] at pd
      rw [if_pos rfl]
      obtain ⟨nu, n1, n2⟩ := p_num (d + 3) T G s (t := t) hB (by omega) (t - p).toNat p 0 hp.1 (by omega) (hen q2 q) (by omega) (by omega)
      have sh := y_shl6 (n := y_num B (t - p).toNat p 0) ⟨n1, n2⟩
      simp -implicitDefEqProofs (disch := first | assumption | omega | rfl | (simp only [z_up_eq, z_up_app, ↓reduceIte, Nat.reduceEqDiff]; omega)) only [z_lit0, z_lit1, z_lit2, z_litl, iI_add, iI_sub, iI_mul, iI_neg, iI_and, iI_or, iI_xor, iI_shl, iI_shr, iI_ushr, iI_div, iI_b, iI_c, iI_i2l, lI_l2i, lI_add, lI_sub, lI_mul, lI_neg, lI_div, lI_or, lI_and, lI_shl, lI_shr, nI_iI, lg_lt0, lg_gt0, lg_eq0, i_ne0', l_ne0', iI_lt, iI_le, iI_eq, lI_lt, lI_le, lI_eq, zb_0, zb_fit, zb_fit0, zb_fit1, i_one_zero, i_w_in, z_tb0, z_tb1, z_tb2, z_tb3, z_tb4, z_tb5, z_tb6, z_tb7, z_tb8, z_tbl, z_tu0, z_tu1, z_tu2, z_i_62, z_i_63, z_i_86, z_i_88, z_l_Y, z_ui_62, z_ui_63, z_ui_86, z_ui_88, z_ul_Y, z_sz_Y, z_sw_Y, iI_nat, z_ix_t, z_at, Int.add_zero, Int.sub_zero, Int.zero_add, Int.mul_zero, ne_eq, Bool.false_eq_true, Bool.true_eq_false, reduceCtorEq, eq_self, and_true, true_and, and_false, false_and, and_self, not_true_eq_false, not_false_eq_true, decide_true, decide_false, ↓reduceIte, Int.reduceEq, Int.reduceNe, Int.reduceLT, Int.reduceLE, Int.reduceAdd, Int.reduceSub, Int.reduceMul, Int.reduceNeg, Nat.reduceAdd, Nat.reduceEqDiff, Nat.reduceBEq, ↓z_x_eq, z_g_t, z_bI_s, z_bL_s, z_bR_s, z_bV_s, Int.cast_ofNat_Int, beq_self_eq_true, Bool.and_true, Bool.true_and, Bool.and_self, Bool.or_true, Bool.true_or, Bool.false_and, Bool.and_false, Bool.false_or, Bool.or_false, Bool.not_false, Bool.not_true, if_true, if_false, ite_true, ite_false, z_up_eq, z_up_app, z_ro_eq, e, pl, zb_f, pd, zb_t, e_Re_numberOf, nu, sh]
  · rw [q] at pl
    rw [if_pos rfl]
    have w := p_wordOf d T G s (f := p) (t := t) hS hB (by omega)
    simp -implicitDefEqProofs (disch := first | assumption | omega | rfl | (simp only [z_up_eq, z_up_app, ↓reduceIte, Nat.reduceEqDiff]; omega)) only [z_lit0, z_lit1, z_lit2, z_litl, iI_add, iI_sub, iI_mul, iI_neg, iI_and, iI_or, iI_xor, iI_shl, iI_shr, iI_ushr, iI_div, iI_b, iI_c, iI_i2l, lI_l2i, lI_add, lI_sub, lI_mul, lI_neg, lI_div, lI_or, lI_and, lI_shl, lI_shr, nI_iI, lg_lt0, lg_gt0, lg_eq0, i_ne0', l_ne0', iI_lt, iI_le, iI_eq, lI_lt, lI_le, lI_eq, zb_0, zb_fit, zb_fit0, zb_fit1, i_one_zero, i_w_in, z_tb0, z_tb1, z_tb2, z_tb3, z_tb4, z_tb5, z_tb6, z_tb7, z_tb8, z_tbl, z_tu0, z_tu1, z_tu2, z_i_62, z_i_63, z_i_86, z_i_88, z_l_Y, z_ui_62, z_ui_63, z_ui_86, z_ui_88, z_ul_Y, z_sz_Y, z_sw_Y, iI_nat, z_ix_t, z_at, Int.add_zero, Int.sub_zero, Int.zero_add, Int.mul_zero, ne_eq, Bool.false_eq_true, Bool.true_eq_false, reduceCtorEq, eq_self, and_true, true_and, and_false, false_and, and_self, not_true_eq_false, not_false_eq_true, decide_true, decide_false, ↓reduceIte, Int.reduceEq, Int.reduceNe, Int.reduceLT, Int.reduceLE, Int.reduceAdd, Int.reduceSub, Int.reduceMul, Int.reduceNeg, Nat.reduceAdd, Nat.reduceEqDiff, Nat.reduceBEq, ↓z_x_eq, z_g_t, z_bI_s, z_bL_s, z_bR_s, z_bV_s, Int.cast_ofNat_Int, beq_self_eq_true, Bool.and_true, Bool.true_and, Bool.and_self, Bool.or_true, Bool.true_or, Bool.false_and, Bool.and_false, Bool.false_or, Bool.or_false, Bool.not_false, Bool.not_true, if_true, if_false, ite_true, ite_false, z_up_eq, z_up_app, z_ro_eq, e, pl, zb_t, w]
def y_P (B : Int → Int) (L : Int) : Nat → Int
  | 0 => y_go y_bl B L 0
  | j + 1 => if y_P B L j < L then y_go y_bl B L (y_end B L (y_P B L j)) else y_P B L j
theorem y_P_in {B : Int → Int} {L : Int} (hL : 0 ≤ L) : ∀ j, 0 ≤ y_P B L j ∧ y_P B L j ≤ L ∧ (y_P B L j < L → y_bl (B (y_P B L j)) = false)
  | 0 => by
    have := y_go_in (P := y_bl) (B := B) (L := L) (p := 0) hL
    exact ⟨this.1, this.2.1, this.2.2.2⟩
  | j + 1 => by
    have ih := y_P_in (B := B) hL j
    unfold y_P
    by_cases c : y_P B L j < L
    · rw [if_pos c]
      have e := y_end_in (B := B) c
      have := y_go_in (P := y_bl) (B := B) (L := L) (p := y_end B L (y_P B L j)) e.2
      exact ⟨by omega, this.2.1, this.2.2.2⟩
    · rw [if_neg c]; exact ih
/-- what the class has of the tokens -/
def y_tk (B : Int → Int) (L : Int) (N : Nat) (W X : Int → Int) : Prop := N ≤ 300 ∧ y_P B L N = L ∧ W N = 0 ∧ X N = L ∧ ∀ j : Nat, j < N → y_P B L j < L ∧ W j = y_tok B L (y_P B L j) ∧ X j = y_P B L j
theorem p_scan_8 (d : Nat) (T : ZT) (G : ZG) (s : ZG × ZG) {B : Int → Int} {L : Int} (hS : y_S G) (hB : y_tp G B L) : ∀ (m : Nat) (c : Nat) (p i : Int) (W X : Int → Int), 0 ≤ p → p ≤ L → L ≤ p + m → 0 ≤ i → i ≤ p → (c : Int) ≤ p → y_P B L c = y_go y_bl B L p → (∀ j : Nat, j < c → y_P B L j < L ∧ W j = y_tok B L (y_P B L j) ∧ X j = y_P B L j) → ∃ N W' X', z_w d_Re_scan (z_call (d + 6)) 8 [some (vr 56), some (vr 55), some (vi (iI L)), some (vi (iI c)), some (vi (iI p)), some (vi (iI i)), none] [] (z_Y T (z_up (z_up G 57 W) 58 X) s) = some (vi (iI 0), z_Y T (z_up (z_up G 57 W') 58 X') s) ∧ y_tk B L N W' X' := by
  have hL := hB.1
  have fin : ∀ (c : Nat) (p i : Int) (W X : Int → Int), p = L → (c : Int) ≤ L → 0 ≤ i → i ≤ p → y_P B L c = y_go y_bl B L p → (∀ j : Nat, j < c → y_P B L j < L ∧ W j = y_tok B L (y_P B L j) ∧ X j = y_P B L j) → ∃ N W' X', z_w d_Re_scan (z_call (d + 6)) 8 [some (vr 56), some (vr 55), some (vi (iI L)), some (vi (iI c)), some (vi (iI p)), some (vi (iI i)), none] [] (z_Y T (z_up (z_up G 57 W) 58 X) s) = some (vi (iI 0), z_Y T (z_up (z_up G 57 W') 58 X') s) ∧ y_tk B L N W' X' := by
    intro c p i W X hp hc h1 h2 hP hj
    refine ⟨c, z_ro W c 0, z_ro X c L, ?_, by omega, by rw [hP, hp]; exact y_go_end (by omega), z_ro_eq _ _ _, z_ro_eq _ _ _, fun j a => ?_⟩
    · have c1 : (p < L) = False := eq_false (by omega)
      rw [e_Re_scan_8]
      by_cases c2 : i < 300
      · simp -implicitDefEqProofs (disch := first | assumption | omega | rfl | (simp only [z_up_eq, z_up_app, ↓reduceIte, Nat.reduceEqDiff]; omega)) only [z_lit0, z_lit1, z_lit2, z_litl, iI_add, iI_sub, iI_mul, iI_neg, iI_and, iI_or, iI_xor, iI_shl, iI_shr, iI_ushr, iI_div, iI_b, iI_c, iI_i2l, lI_l2i, lI_add, lI_sub, lI_mul, lI_neg, lI_div, lI_or, lI_and, lI_shl, lI_shr, nI_iI, lg_lt0, lg_gt0, lg_eq0, i_ne0', l_ne0', iI_lt, iI_le, iI_eq, lI_lt, lI_le, lI_eq, zb_0, zb_fit, zb_fit0, zb_fit1, i_one_zero, i_w_in, z_tb0, z_tb1, z_tb2, z_tb3, z_tb4, z_tb5, z_tb6, z_tb7, z_tb8, z_tbl, z_tu0, z_tu1, z_tu2, z_i_62, z_i_63, z_i_86, z_i_88, z_l_Y, z_ui_62, z_ui_63, z_ui_86, z_ui_88, z_ul_Y, z_sz_Y, z_sw_Y, iI_nat, z_ix_t, z_at, Int.add_zero, Int.sub_zero, Int.zero_add, Int.mul_zero, ne_eq, Bool.false_eq_true, Bool.true_eq_false, reduceCtorEq, eq_self, and_true, true_and, and_false, false_and, and_self, not_true_eq_false, not_false_eq_true, decide_true, decide_false, ↓reduceIte, Int.reduceEq, Int.reduceNe, Int.reduceLT, Int.reduceLE, Int.reduceAdd, Int.reduceSub, Int.reduceMul, Int.reduceNeg, Nat.reduceAdd, Nat.reduceEqDiff, Nat.reduceBEq, ↓z_x_eq, z_g_t, z_bI_s, z_bL_s, z_bR_s, z_bV_s, Int.cast_ofNat_Int, beq_self_eq_true, Bool.and_true, Bool.true_and, Bool.and_self, Bool.or_true, Bool.true_or, Bool.false_and, Bool.and_false, Bool.false_or, Bool.or_false, Bool.not_false, Bool.not_true, if_true, if_false, ite_true, ite_false, z_up_eq, z_up_app, z_ro_eq, c2, c1, z_up_up, z_up_cm]
      · simp -implicitDefEqProofs (disch := first | assumption | omega | rfl | (simp only [z_up_eq, z_up_app, ↓reduceIte, Nat.reduceEqDiff]; omega)) only [z_lit0, z_lit1, z_lit2, z_litl, iI_add, iI_sub, iI_mul, iI_neg, iI_and, iI_or, iI_xor, iI_shl, iI_shr, iI_ushr, iI_div, iI_b, iI_c, iI_i2l, lI_l2i, lI_add, lI_sub, lI_mul, lI_neg, lI_div, lI_or, lI_and, lI_shl, lI_shr, nI_iI, lg_lt0, lg_gt0, lg_eq0, i_ne0', l_ne0', iI_lt, iI_le, iI_eq, lI_lt, lI_le, lI_eq, zb_0, zb_fit, zb_fit0, zb_fit1, i_one_zero, i_w_in, z_tb0, z_tb1, z_tb2, z_tb3, z_tb4, z_tb5, z_tb6, z_tb7, z_tb8, z_tbl, z_tu0, z_tu1, z_tu2, z_i_62, z_i_63, z_i_86, z_i_88, z_l_Y, z_ui_62, z_ui_63, z_ui_86, z_ui_88, z_ul_Y, z_sz_Y, z_sw_Y, iI_nat, z_ix_t, z_at, Int.add_zero, Int.sub_zero, Int.zero_add, Int.mul_zero, ne_eq, Bool.false_eq_true, Bool.true_eq_false, reduceCtorEq, eq_self, and_true, true_and, and_false, false_and, and_self, not_true_eq_false, not_false_eq_true, decide_true, decide_false, ↓reduceIte, Int.reduceEq, Int.reduceNe, Int.reduceLT, Int.reduceLE, Int.reduceAdd, Int.reduceSub, Int.reduceMul, Int.reduceNeg, Nat.reduceAdd, Nat.reduceEqDiff, Nat.reduceBEq, ↓z_x_eq, z_g_t, z_bI_s, z_bL_s, z_bR_s, z_bV_s, Int.cast_ofNat_Int, beq_self_eq_true, Bool.and_true, Bool.true_and, Bool.and_self, Bool.or_true, Bool.true_or, Bool.false_and, Bool.and_false, Bool.false_or, Bool.or_false, Bool.not_false, Bool.not_true, if_true, if_false, ite_true, ite_false, z_up_eq, z_up_app, z_ro_eq, c2, z_up_up, z_up_cm]
    · rw [z_ro_ne _ _ (by omega), z_ro_ne _ _ (by omega)]; exact hj j a
  intro m
  induction m with
  | zero =>
    intro c p i W X h0 h1 h2 h3 h4 h5 h6 h7
    exact fin c p i W X (by omega) (by omega) h3 h4 h6 h7
  | succ m ih =>
    intro c p i W X h0 h1 h2 h3 h4 h5 h6 h7
    by_cases c1 : p < L
    · have c1' : (p < L) = True := eq_true c1
      have c2 : (i < 300) = True := eq_true (by omega)
      have hQ : ∀ W X, y_S (z_up (z_up G 57 W) 58 X) := fun W X => by
        unfold y_S
        rw [z_up_ne _ _ (show 3 ≠ 58 by omega), z_up_ne _ _ (show 3 ≠ 57 by omega), z_up_ne _ _ (show 5 ≠ 58 by omega), z_up_ne _ _ (show 5 ≠ 57 by omega), z_up_ne _ _ (show 4 ≠ 58 by omega), z_up_ne _ _ (show 4 ≠ 57 by omega), z_up_ne _ _ (show 6 ≠ 58 by omega), z_up_ne _ _ (show 6 ≠ 57 by omega), z_up_ne _ _ (show 2 ≠ 58 by omega), z_up_ne _ _ (show 2 ≠ 57 by omega)]
        exact hS
      have hR : ∀ W X, y_tp (z_up (z_up G 57 W) 58 X) B L := fun W X => by
        unfold y_tp
        rw [z_up_ne _ _ (show 55 ≠ 58 by omega), z_up_ne _ _ (show 55 ≠ 57 by omega)]
        exact hB
      have et := p_eot (d + 4) T (z_up (z_up G 57 W) 58 X) s (hR W X) ⟨h0, c1⟩
      have en := y_end_in (B := B) c1
      have hb := hB.2 p h0 c1
      have e := hb.2
      have sb := y_sb_in hb.1
      have e32 := y_sb_eq (c := 32) hb.1 (by omega)
      have e10 := y_sb_eq (c := 10) hb.1 (by omega)
      cases q : y_bl (B p)
      · have q' := of_decide_eq_false q
        have n32 : (B p = 32) = False := eq_false (fun z => q' (Or.inl z))
        have n10 : (B p = 10) = False := eq_false (fun z => q' (Or.inr z))
        have tk := p_tok d T (z_up (z_up G 57 W) 58 X) s (hQ W X) (hR W X) ⟨h0, c1⟩
        have hpc : y_P B L c = p := by rw [h6, y_go_st c1, q]; rfl
        obtain ⟨N, W', X', e1, k1⟩ := ih (c + 1) (y_end B L p) (i + 1) (z_ro W c (y_tok B L p)) (z_ro X c p) (by omega) en.2 (by omega) (by omega) (by omega) (by omega) (by
          show (if y_P B L c < L then _ else _) = _
          rw [hpc]; exact if_pos c1) (fun j a => by
          by_cases z : j = c
          · rw [z, hpc, z_ro_eq, z_ro_eq]; exact ⟨c1, rfl, rfl⟩
          · rw [z_ro_ne _ _ (by omega), z_ro_ne _ _ (by omega)]; exact h7 j (by omega))
        refine ⟨N, W', X', ?_, k1⟩
        rw [show ((c + 1 : Nat) : Int) = (c : Int) + 1 by omega] at e1
        rw [← e1, e_Re_scan_8]
        simp -implicitDefEqProofs (disch := first | assumption | omega | rfl | (simp only [z_up_eq, z_up_app, ↓reduceIte, Nat.reduceEqDiff]; omega)) only [z_lit0, z_lit1, z_lit2, z_litl, iI_add, iI_sub, iI_mul, iI_neg, iI_and, iI_or, iI_xor, iI_shl, iI_shr, iI_ushr, iI_div, iI_b, iI_c, iI_i2l, lI_l2i, lI_add, lI_sub, lI_mul, lI_neg, lI_div, lI_or, lI_and, lI_shl, lI_shr, nI_iI, lg_lt0, lg_gt0, lg_eq0, i_ne0', l_ne0', iI_lt, iI_le, iI_eq, lI_lt, lI_le, lI_eq, zb_0, zb_fit, zb_fit0, zb_fit1, i_one_zero, i_w_in, z_tb0, z_tb1, z_tb2, z_tb3, z_tb4, z_tb5, z_tb6, z_tb7, z_tb8, z_tbl, z_tu0, z_tu1, z_tu2, z_i_62, z_i_63, z_i_86, z_i_88, z_l_Y, z_ui_62, z_ui_63, z_ui_86, z_ui_88, z_ul_Y, z_sz_Y, z_sw_Y, iI_nat, z_ix_t, z_at, Int.add_zero, Int.sub_zero, Int.zero_add, Int.mul_zero, ne_eq, Bool.false_eq_true, Bool.true_eq_false, reduceCtorEq, eq_self, and_true, true_and, and_false, false_and, and_self, not_true_eq_false, not_false_eq_true, decide_true, decide_false, ↓reduceIte, Int.reduceEq, Int.reduceNe, Int.reduceLT, Int.reduceLE, Int.reduceAdd, Int.reduceSub, Int.reduceMul, Int.reduceNeg, Nat.reduceAdd, Nat.reduceEqDiff, Nat.reduceBEq, ↓z_x_eq, z_g_t, z_bI_s, z_bL_s, z_bR_s, z_bV_s, Int.cast_ofNat_Int, beq_self_eq_true, Bool.and_true, Bool.true_and, Bool.and_self, Bool.or_true, Bool.true_or, Bool.false_and, Bool.and_false, Bool.false_or, Bool.or_false, Bool.not_false, Bool.not_true, if_true, if_false, ite_true, ite_false, z_up_eq, z_up_app, z_ro_eq, c2, c1', et, e, e32, e10, n32, n10, tk, z_up_up, z_up_cm]
      · have q' := of_decide_eq_true q
        have ee : y_end B L p = p + 1 := by
          unfold y_end y_let y_dig
          rw [decide_eq_false (by omega), decide_eq_false (by omega), if_neg (by decide), if_neg (by decide), if_neg (by omega)]
        rw [ee] at et
        obtain ⟨N, W', X', e1, k1⟩ := ih c (p + 1) (i + 1) W X (by omega) (by omega) (by omega) (by omega) (by omega) (by omega) (by rw [h6, y_go_st c1, q]; rfl) h7
        refine ⟨N, W', X', ?_, k1⟩
        rw [← e1, e_Re_scan_8]
        by_cases n32 : B p = 32
        · have n32' : (B p = 32) = True := eq_true n32
          simp -implicitDefEqProofs (disch := first | assumption | omega | rfl | (simp only [z_up_eq, z_up_app, ↓reduceIte, Nat.reduceEqDiff]; omega)) only [z_lit0, z_lit1, z_lit2, z_litl, iI_add, iI_sub, iI_mul, iI_neg, iI_and, iI_or, iI_xor, iI_shl, iI_shr, iI_ushr, iI_div, iI_b, iI_c, iI_i2l, lI_l2i, lI_add, lI_sub, lI_mul, lI_neg, lI_div, lI_or, lI_and, lI_shl, lI_shr, nI_iI, lg_lt0, lg_gt0, lg_eq0, i_ne0', l_ne0', iI_lt, iI_le, iI_eq, lI_lt, lI_le, lI_eq, zb_0, zb_fit, zb_fit0, zb_fit1, i_one_zero, i_w_in, z_tb0, z_tb1, z_tb2, z_tb3, z_tb4, z_tb5, z_tb6, z_tb7, z_tb8, z_tbl, z_tu0, z_tu1, z_tu2, z_i_62, z_i_63, z_i_86, z_i_88, z_l_Y, z_ui_62, z_ui_63, z_ui_86, z_ui_88, z_ul_Y, z_sz_Y, z_sw_Y, iI_nat, z_ix_t, z_at, Int.add_zero, Int.sub_zero, Int.zero_add, Int.mul_zero, ne_eq, Bool.false_eq_true, Bool.true_eq_false, reduceCtorEq, eq_self, and_true, true_and, and_false, false_and, and_self, not_true_eq_false, not_false_eq_true, decide_true, decide_false, ↓reduceIte, Int.reduceEq, Int.reduceNe, Int.reduceLT, Int.reduceLE, Int.reduceAdd, Int.reduceSub, Int.reduceMul, Int.reduceNeg, Nat.reduceAdd, Nat.reduceEqDiff, Nat.reduceBEq, ↓z_x_eq, z_g_t, z_bI_s, z_bL_s, z_bR_s, z_bV_s, Int.cast_ofNat_Int, beq_self_eq_true, Bool.and_true, Bool.true_and, Bool.and_self, Bool.or_true, Bool.true_or, Bool.false_and, Bool.and_false, Bool.false_or, Bool.or_false, Bool.not_false, Bool.not_true, if_true, if_false, ite_true, ite_false, z_up_eq, z_up_app, z_ro_eq, c2, c1', et, e, e32, n32']
        · have n32' : (B p = 32) = False := eq_false n32
          have n10' : (B p = 10) = True := eq_true (by omega)
          simp -implicitDefEqProofs (disch := first | assumption | omega | rfl | (simp only [z_up_eq, z_up_app, ↓reduceIte, Nat.reduceEqDiff]; omega)) only [z_lit0, z_lit1, z_lit2, z_litl, iI_add, iI_sub, iI_mul, iI_neg, iI_and, iI_or, iI_xor, iI_shl, iI_shr, iI_ushr, iI_div, iI_b, iI_c, iI_i2l, lI_l2i, lI_add, lI_sub, lI_mul, lI_neg, lI_div, lI_or, lI_and, lI_shl, lI_shr, nI_iI, lg_lt0, lg_gt0, lg_eq0, i_ne0', l_ne0', iI_lt, iI_le, iI_eq, lI_lt, lI_le, lI_eq, zb_0, zb_fit, zb_fit0, zb_fit1, i_one_zero, i_w_in, z_tb0, z_tb1, z_tb2, z_tb3, z_tb4, z_tb5, z_tb6, z_tb7, z_tb8, z_tbl, z_tu0, z_tu1, z_tu2, z_i_62, z_i_63, z_i_86, z_i_88, z_l_Y, z_ui_62, z_ui_63, z_ui_86, z_ui_88, z_ul_Y, z_sz_Y, z_sw_Y, iI_nat, z_ix_t, z_at, Int.add_zero, Int.sub_zero, Int.zero_add, Int.mul_zero, ne_eq, Bool.false_eq_true, Bool.true_eq_false, reduceCtorEq, eq_self, and_true, true_and, and_false, false_and, and_self, not_true_eq_false, not_false_eq_true, decide_true, decide_false, ↓reduceIte, Int.reduceEq, Int.reduceNe, Int.reduceLT, Int.reduceLE, Int.reduceAdd, Int.reduceSub, Int.reduceMul, Int.reduceNeg, Nat.reduceAdd, Nat.reduceEqDiff, Nat.reduceBEq, ↓z_x_eq, z_g_t, z_bI_s, z_bL_s, z_bR_s, z_bV_s, Int.cast_ofNat_Int, beq_self_eq_true, Bool.and_true, Bool.true_and, Bool.and_self, Bool.or_true, Bool.true_or, Bool.false_and, Bool.and_false, Bool.false_or, Bool.or_false, Bool.not_false, Bool.not_true, if_true, if_false, ite_true, ite_false, z_up_eq, z_up_app, z_ro_eq, c2, c1', et, e, e32, e10, n32', n10']
    · exact fin c p i W X (by omega) (by omega) h3 h4 h6 h7
theorem p_scan (d : Nat) (T : ZT) (G : ZG) (s : ZG × ZG) {B : Int → Int} {L : Int} (hS : y_S G) (hB : y_tp G B L) : ∃ N W' X', z_call (d + 7) 54 [vr 56, vr 55, vi (iI L)] (z_Y T G s) = some (vi (iI 0), z_Y T (z_up (z_up G 57 W') 58 X') s) ∧ y_tk B L N W' X' := by
  have hL := hB.1
  obtain ⟨N, W', X', e, k⟩ := p_scan_8 d T G s hS hB L.toNat 0 0 0 (G 57) (G 58) (by omega) hL.1 (by omega) (by omega) (by omega) (by omega) rfl (fun j a => by omega)
  have e0 : z_up (z_up G 57 (G 57)) 58 (G 58) = G := by rw [z_up_id, z_up_id]
  rw [e0, show ((0 : Nat) : Int) = 0 from rfl] at e
  refine ⟨N, W', X', ?_, k⟩
  rw [e_Re_scan]
  simp -implicitDefEqProofs (disch := first | assumption | omega | rfl | (simp only [z_up_eq, z_up_app, ↓reduceIte, Nat.reduceEqDiff]; omega)) only [z_lit0, z_lit1, z_lit2, z_litl, iI_add, iI_sub, iI_mul, iI_neg, iI_and, iI_or, iI_xor, iI_shl, iI_shr, iI_ushr, iI_div, iI_b, iI_c, iI_i2l, lI_l2i, lI_add, lI_sub, lI_mul, lI_neg, lI_div, lI_or, lI_and, lI_shl, lI_shr, nI_iI, lg_lt0, lg_gt0, lg_eq0, i_ne0', l_ne0', iI_lt, iI_le, iI_eq, lI_lt, lI_le, lI_eq, zb_0, zb_fit, zb_fit0, zb_fit1, i_one_zero, i_w_in, z_tb0, z_tb1, z_tb2, z_tb3, z_tb4, z_tb5, z_tb6, z_tb7, z_tb8, z_tbl, z_tu0, z_tu1, z_tu2, z_i_62, z_i_63, z_i_86, z_i_88, z_l_Y, z_ui_62, z_ui_63, z_ui_86, z_ui_88, z_ul_Y, z_sz_Y, z_sw_Y, iI_nat, z_ix_t, z_at, Int.add_zero, Int.sub_zero, Int.zero_add, Int.mul_zero, ne_eq, Bool.false_eq_true, Bool.true_eq_false, reduceCtorEq, eq_self, and_true, true_and, and_false, false_and, and_self, not_true_eq_false, not_false_eq_true, decide_true, decide_false, ↓reduceIte, Int.reduceEq, Int.reduceNe, Int.reduceLT, Int.reduceLE, Int.reduceAdd, Int.reduceSub, Int.reduceMul, Int.reduceNeg, Nat.reduceAdd, Nat.reduceEqDiff, Nat.reduceBEq, ↓z_x_eq, z_g_t, z_bI_s, z_bL_s, z_bR_s, z_bV_s, Int.cast_ofNat_Int, beq_self_eq_true, Bool.and_true, Bool.true_and, Bool.and_self, Bool.or_true, Bool.true_or, Bool.false_and, Bool.and_false, Bool.false_or, Bool.or_false, Bool.not_false, Bool.not_true, if_true, if_false, ite_true, ite_false, z_up_eq, z_up_app, z_ro_eq, e]

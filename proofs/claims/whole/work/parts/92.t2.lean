/-! THE PURE PART, 73: words, numbers, signs; the class's scan -/
def y_sl (B : Int → Int) : Nat → Int → List Int
  | 0, _ => []
  | m + 1, p => B p :: y_sl B m (p + 1)
def y_wf : List (List Int) → Int → List Int → Int
  | [], _, _ => 1
  | w :: ws, k, l => if l = w then k else y_wf ws (k + 1) l
/-- the class's walk through its words -/
def y_wo (B : Int → Int) (f t : Int) : List Int → Int → Int → Int
  | [], _, _ => 1
  | c :: cs, k, m => if c = 32 then (if m = t then k else y_wo B f t cs (k + 1) f) else y_wo B f t cs k (if m < t ∧ B m = c then m + 1 else t + 1)
theorem y_wo_bad {B : Int → Int} {f t : Int} : ∀ (w rest : List Int) (k : Int), (∀ c, c ∈ w → c ≠ 32) → y_wo B f t (w ++ 32 :: rest) k (t + 1) = y_wo B f t rest (k + 1) f
  | [], rest, k, _ => by
    show (if (32 : Int) = 32 then (if t + 1 = t then k else y_wo B f t rest (k + 1) f) else _) = _
    rw [if_pos rfl, if_neg (by omega)]
  | c :: w, rest, k, h => by
    show (if c = 32 then _ else y_wo B f t (w ++ 32 :: rest) k (if t + 1 < t ∧ B (t + 1) = c then t + 1 + 1 else t + 1)) = _
    rw [if_neg (h c (List.mem_cons_self ..)), if_neg (by omega)]
    exact y_wo_bad w rest k (fun c' m => h c' (List.mem_cons_of_mem _ m))
theorem y_wo_w {B : Int → Int} {f t : Int} : ∀ (w rest : List Int) (k : Int) (n : Nat) (m : Int), (∀ c, c ∈ w → c ≠ 32) → m + n = t → y_wo B f t (w ++ 32 :: rest) k m = if y_sl B n m = w then k else y_wo B f t rest (k + 1) f
  | [], rest, k, n, m, _, h => by
    show (if (32 : Int) = 32 then (if m = t then k else y_wo B f t rest (k + 1) f) else _) = _
    rw [if_pos rfl]
    cases n with
    | zero => rw [if_pos (by omega)]; exact (if_pos rfl).symm
    | succ n => rw [if_neg (by omega), if_neg (fun q => by cases q)]
  | c :: w, rest, k, n, m, hw, h => by
    show (if c = 32 then _ else y_wo B f t (w ++ 32 :: rest) k (if m < t ∧ B m = c then m + 1 else t + 1)) = _
    rw [if_neg (hw c (List.mem_cons_self ..))]
    have hw' : ∀ c', c' ∈ w → c' ≠ 32 := fun c' m => hw c' (List.mem_cons_of_mem _ m)
    cases n with
    | zero =>
      rw [if_neg (by omega), y_wo_bad w rest k hw', if_neg (fun q => by cases q)]
    | succ n =>
      by_cases q : B m = c
      · rw [if_pos ⟨by omega, q⟩, y_wo_w w rest k n (m + 1) hw' (by omega)]
        have e : (y_sl B (n + 1) m = c :: w) = (y_sl B n (m + 1) = w) := propext ⟨fun z => (List.cons.inj z).2, fun z => by show B m :: y_sl B n (m + 1) = _; rw [q, z]⟩
        simp only [e]
      · rw [if_neg (fun z => q z.2), y_wo_bad w rest k hw']; exact (if_neg (fun z => q (List.cons.inj z).1)).symm
theorem y_wo_all {B : Int → Int} {f t : Int} {n : Nat} (h : f + n = t) : ∀ (ws : List (List Int)) (k : Int), (∀ w, w ∈ ws → ∀ c, c ∈ w → c ≠ 32) → y_wo B f t (y_fl ws) k f = y_wf ws k (y_sl B n f)
  | [], _, _ => rfl
  | w :: ws, k, hw => by
    show y_wo B f t (w ++ 32 :: y_fl ws) k f = if y_sl B n f = w then k else y_wf ws (k + 1) (y_sl B n f)
    rw [y_wo_w w (y_fl ws) k n f (hw w (List.mem_cons_self ..)) h, y_wo_all h ws (k + 1) (fun w' m => hw w' (List.mem_cons_of_mem _ m))]
theorem y_tb_32 : ∀ w, w ∈ y_tb → ∀ c, c ∈ w → c ≠ 32 := by decide +kernel
def y_word (B : Int → Int) (p e : Int) : Int := y_wf y_tb 18 (y_sl B (e - p).toNat p)
theorem y_wf_in : ∀ (ws : List (List Int)) (k : Int) (l : List Int), y_wf ws k l = 1 ∨ (k ≤ y_wf ws k l ∧ y_wf ws k l < k + ws.length)
  | [], _, _ => Or.inl rfl
  | w :: ws, k, l => by
    show (if l = w then k else y_wf ws (k + 1) l) = 1 ∨ (k ≤ (if l = w then k else y_wf ws (k + 1) l) ∧ (if l = w then k else y_wf ws (k + 1) l) < k + ((ws.length + 1 : Nat) : Int))
    split
    · exact Or.inr ⟨by omega, by omega⟩
    · rcases y_wf_in ws (k + 1) l with h | h
      · exact Or.inl h
      · exact Or.inr ⟨by omega, by omega⟩
theorem p_wo (d : Nat) (T : ZT) (G : ZG) (s : ZG × ZG) {B : Int → Int} {L f t : Int} (hS : y_S G) (hB : y_tp G B L) (hf : 0 ≤ f ∧ f ≤ t ∧ t ≤ L) : ∀ (cs : List Int) (i k m : Int), 0 ≤ i → i + cs.length = 141 → (∀ q : Nat, q < cs.length → y_wd.getD (i.toNat + q) 0 = cs.getD q 0) → 0 ≤ k → k + cs.length ≤ 200 → 0 ≤ m → m ≤ t + 1 → z_w d_Re_wordOf (z_call (d + 4)) 9 [some (vr 55), some (vi (iI f)), some (vi (iI t)), some (vi (iI k)), some (vi (iI m)), some (vi (iI i)), none] [] (z_Y T G s) = some (vi (iI (y_wo B f t cs k m)), z_Y T G s)
  | [], i, k, m, h0, h, hc, hk, hk2, hm, hm2 => by
    have hL := hB.1
    have sl := p_slen (d + 2) T G s hS
    have c : (i < 141) = False := eq_false (by have : i + 0 = 141 := h; omega)
    rw [e_Re_wordOf_9]
    simp -implicitDefEqProofs (disch := first | assumption | omega | rfl | (simp only [z_up_eq, z_up_app, ↓reduceIte, Nat.reduceEqDiff]; omega)) only [z_lit0, z_lit1, z_lit2, z_litl, iI_add, iI_sub, iI_mul, iI_neg, iI_and, iI_or, iI_xor, iI_shl, iI_shr, iI_ushr, iI_div, iI_b, iI_c, iI_i2l, lI_l2i, lI_add, lI_sub, lI_mul, lI_neg, lI_div, lI_or, lI_and, lI_shl, lI_shr, nI_iI, lg_lt0, lg_gt0, lg_eq0, i_ne0', l_ne0', iI_lt, iI_le, iI_eq, lI_lt, lI_le, lI_eq, zb_0, zb_fit, zb_fit0, zb_fit1, i_one_zero, i_w_in, z_tb0, z_tb1, z_tb2, z_tb3, z_tb4, z_tb5, z_tb6, z_tb7, z_tb8, z_tbl, z_tu0, z_tu1, z_tu2, z_i_62, z_i_63, z_i_86, z_i_88, z_l_Y, z_ui_62, z_ui_63, z_ui_86, z_ui_88, z_ul_Y, z_sz_Y, z_sw_Y, iI_nat, z_ix_t, z_at, Int.add_zero, Int.sub_zero, Int.zero_add, Int.mul_zero, ne_eq, Bool.false_eq_true, Bool.true_eq_false, reduceCtorEq, eq_self, and_true, true_and, and_false, false_and, and_self, not_true_eq_false, not_false_eq_true, decide_true, decide_false, ↓reduceIte, Int.reduceEq, Int.reduceNe, Int.reduceLT, Int.reduceLE, Int.reduceAdd, Int.reduceSub, Int.reduceMul, Int.reduceNeg, Nat.reduceAdd, Nat.reduceEqDiff, Nat.reduceBEq, ↓z_x_eq, z_g_t, z_bI_s, z_bL_s, z_bR_s, z_bV_s, Int.cast_ofNat_Int, beq_self_eq_true, Bool.and_true, Bool.true_and, Bool.and_self, Bool.or_true, Bool.true_or, Bool.false_and, Bool.and_false, Bool.false_or, Bool.or_false, Bool.not_false, Bool.not_true, if_true, if_false, ite_true, ite_false, z_up_eq, z_up_app, z_ro_eq, sl, c]
    rfl
  | c :: cs, i, k, m, h0, h, hc, hk, hk2, hm, hm2 => by
    have hL := hB.1
    have hlen : ((c :: cs).length : Int) = cs.length + 1 := by simp
    rw [hlen] at h hk2
    have sl := p_slen (d + 2) T G s hS
    have ci : (i < 141) = True := eq_true (by omega)
    have ca := p_charAt d T G s (i := i) hS (by omega)
    have hc0 := hc 0 (by simp)
    rw [Nat.add_zero] at hc0
    rw [hc0, show (c :: cs).getD 0 0 = c from rfl] at ca
    have hb := y_wd_in i.toNat (by omega)
    rw [hc0, show (c :: cs).getD 0 0 = c from rfl] at hb
    have hc' : ∀ q : Nat, q < cs.length → y_wd.getD ((i + 1).toNat + q) 0 = cs.getD q 0 := fun q a => by
      have := hc (q + 1) (by simp; omega)
      rw [show (i + 1).toNat + q = i.toNat + (q + 1) by omega, this]; rfl
    have ez : y_wo B f t (c :: cs) k m = if c = 32 then (if m = t then k else y_wo B f t cs (k + 1) f) else y_wo B f t cs k (if m < t ∧ B m = c then m + 1 else t + 1) := rfl
    rw [ez, e_Re_wordOf_9]
    by_cases q1 : c = 32
    · have q1' : (c = 32) = True := eq_true q1
      rw [if_pos q1]
      by_cases q2 : m = t
      · have q2' : (m = t) = True := eq_true q2
        rw [if_pos q2]
        simp -implicitDefEqProofs (disch := first | assumption | omega | rfl | (simp only [z_up_eq, z_up_app, ↓reduceIte, Nat.reduceEqDiff]; omega)) only [z_lit0, z_lit1, z_lit2, z_litl, iI_add, iI_sub, iI_mul, iI_neg, iI_and, iI_or, iI_xor, iI_shl, iI_shr, iI_ushr, iI_div, iI_b, iI_c, iI_i2l, lI_l2i, lI_add, lI_sub, lI_mul, lI_neg, lI_div, lI_or, lI_and, lI_shl, lI_shr, nI_iI, lg_lt0, lg_gt0, lg_eq0, i_ne0', l_ne0', iI_lt, iI_le, iI_eq, lI_lt, lI_le, lI_eq, zb_0, zb_fit, zb_fit0, zb_fit1, i_one_zero, i_w_in, z_tb0, z_tb1, z_tb2, z_tb3, z_tb4, z_tb5, z_tb6, z_tb7, z_tb8, z_tbl, z_tu0, z_tu1, z_tu2, z_i_62, z_i_63, z_i_86, z_i_88, z_l_Y, z_ui_62, z_ui_63, z_ui_86, z_ui_88, z_ul_Y, z_sz_Y, z_sw_Y, iI_nat, z_ix_t, z_at, Int.add_zero, Int.sub_zero, Int.zero_add, Int.mul_zero, ne_eq, Bool.false_eq_true, Bool.true_eq_false, reduceCtorEq, eq_self, and_true, true_and, and_false, false_and, and_self, not_true_eq_false, not_false_eq_true, decide_true, decide_false, ↓reduceIte, Int.reduceEq, Int.reduceNe, Int.reduceLT, Int.reduceLE, Int.reduceAdd, Int.reduceSub, Int.reduceMul, Int.reduceNeg, Nat.reduceAdd, Nat.reduceEqDiff, Nat.reduceBEq, ↓z_x_eq, z_g_t, z_bI_s, z_bL_s, z_bR_s, z_bV_s, Int.cast_ofNat_Int, beq_self_eq_true, Bool.and_true, Bool.true_and, Bool.and_self, Bool.or_true, Bool.true_or, Bool.false_and, Bool.and_false, Bool.false_or, Bool.or_false, Bool.not_false, Bool.not_true, if_true, if_false, ite_true, ite_false, z_up_eq, z_up_app, z_ro_eq, sl, ci, ca, q1', q2']
      · have q2' : (m = t) = False := eq_false q2
        rw [if_neg q2]
        have ih := p_wo d T G s hS hB hf cs (i + 1) (k + 1) f (by omega) (by omega) hc' (by omega) (by omega) (by omega) (by omega)
        simp -implicitDefEqProofs (disch := first | assumption | omega | rfl | (simp only [z_up_eq, z_up_app, ↓reduceIte, Nat.reduceEqDiff]; omega)) only [z_lit0, z_lit1, z_lit2, z_litl, iI_add, iI_sub, iI_mul, iI_neg, iI_and, iI_or, iI_xor, iI_shl, iI_shr, iI_ushr, iI_div, iI_b, iI_c, iI_i2l, lI_l2i, lI_add, lI_sub, lI_mul, lI_neg, lI_div, lI_or, lI_and, lI_shl, lI_shr, nI_iI, lg_lt0, lg_gt0, lg_eq0, i_ne0', l_ne0', iI_lt, iI_le, iI_eq, lI_lt, lI_le, lI_eq, zb_0, zb_fit, zb_fit0, zb_fit1, i_one_zero, i_w_in, z_tb0, z_tb1, z_tb2, z_tb3, z_tb4, z_tb5, z_tb6, z_tb7, z_tb8, z_tbl, z_tu0, z_tu1, z_tu2, z_i_62, z_i_63, z_i_86, z_i_88, z_l_Y, z_ui_62, z_ui_63, z_ui_86, z_ui_88, z_ul_Y, z_sz_Y, z_sw_Y, iI_nat, z_ix_t, z_at, Int.add_zero, Int.sub_zero, Int.zero_add, Int.mul_zero, ne_eq, Bool.false_eq_true, Bool.true_eq_false, reduceCtorEq, eq_self, and_true, true_and, and_false, false_and, and_self, not_true_eq_false, not_false_eq_true, decide_true, decide_false, ↓reduceIte, Int.reduceEq, Int.reduceNe, Int.reduceLT, Int.reduceLE, Int.reduceAdd, Int.reduceSub, Int.reduceMul, Int.reduceNeg, Nat.reduceAdd, Nat.reduceEqDiff, Nat.reduceBEq, ↓z_x_eq, z_g_t, z_bI_s, z_bL_s, z_bR_s, z_bV_s, Int.cast_ofNat_Int, beq_self_eq_true, Bool.and_true, Bool.true_and, Bool.and_self, Bool.or_true, Bool.true_or, Bool.false_and, Bool.and_false, Bool.false_or, Bool.or_false, Bool.not_false, Bool.not_true, if_true, if_false, ite_true, ite_false, z_up_eq, z_up_app, z_ro_eq, sl, ci, ca, q1', q2', ih]
    · have q1' : (c = 32) = False := eq_false q1
      rw [if_neg q1]
      by_cases q2 : m < t
      · have q2' : (m < t) = True := eq_true q2
        have hbm := hB.2 m hm (by omega)
        have sb := y_sb_in hbm.1
        have e := hbm.2
        have em := y_sb_eq (c := c) hbm.1 (by omega)
        by_cases q3 : B m = c
        · have q3' : (B m = c) = True := eq_true q3
          rw [if_pos ⟨q2, q3⟩]
          have ih := p_wo d T G s hS hB hf cs (i + 1) k (m + 1) (by omega) (by omega) hc' (by omega) (by omega) (by omega) (by omega)
          simp -implicitDefEqProofs (disch := first | assumption | omega | rfl | (simp only [z_up_eq, z_up_app, ↓reduceIte, Nat.reduceEqDiff]; omega)) only [z_lit0, z_lit1, z_lit2, z_litl, iI_add, iI_sub, iI_mul, iI_neg, iI_and, iI_or, iI_xor, iI_shl, iI_shr, iI_ushr, iI_div, iI_b, iI_c, iI_i2l, lI_l2i, lI_add, lI_sub, lI_mul, lI_neg, lI_div, lI_or, lI_and, lI_shl, lI_shr, nI_iI, lg_lt0, lg_gt0, lg_eq0, i_ne0', l_ne0', iI_lt, iI_le, iI_eq, lI_lt, lI_le, lI_eq, zb_0, zb_fit, zb_fit0, zb_fit1, i_one_zero, i_w_in, z_tb0, z_tb1, z_tb2, z_tb3, z_tb4, z_tb5, z_tb6, z_tb7, z_tb8, z_tbl, z_tu0, z_tu1, z_tu2, z_i_62, z_i_63, z_i_86, z_i_88, z_l_Y, z_ui_62, z_ui_63, z_ui_86, z_ui_88, z_ul_Y, z_sz_Y, z_sw_Y, iI_nat, z_ix_t, z_at, Int.add_zero, Int.sub_zero, Int.zero_add, Int.mul_zero, ne_eq, Bool.false_eq_true, Bool.true_eq_false, reduceCtorEq, eq_self, and_true, true_and, and_false, false_and, and_self, not_true_eq_false, not_false_eq_true, decide_true, decide_false, ↓reduceIte, Int.reduceEq, Int.reduceNe, Int.reduceLT, Int.reduceLE, Int.reduceAdd, Int.reduceSub, Int.reduceMul, Int.reduceNeg, Nat.reduceAdd, Nat.reduceEqDiff, Nat.reduceBEq, ↓z_x_eq, z_g_t, z_bI_s, z_bL_s, z_bR_s, z_bV_s, Int.cast_ofNat_Int, beq_self_eq_true, Bool.and_true, Bool.true_and, Bool.and_self, Bool.or_true, Bool.true_or, Bool.false_and, Bool.and_false, Bool.false_or, Bool.or_false, Bool.not_false, Bool.not_true, if_true, if_false, ite_true, ite_false, z_up_eq, z_up_app, z_ro_eq, sl, ci, ca, q1', q2', e, em, q3', ih]
        · have q3' : (B m = c) = False := eq_false q3
          rw [if_neg (fun z => q3 z.2)]
          have ih := p_wo d T G s hS hB hf cs (i + 1) k (t + 1) (by omega) (by omega) hc' (by omega) (by omega) (by omega) (by omega)
          simp -implicitDefEqProofs (disch := first | assumption | omega | rfl | (simp only [z_up_eq, z_up_app, ↓reduceIte, Nat.reduceEqDiff]; omega)) only [z_lit0, z_lit1, z_lit2, z_litl, iI_add, iI_sub, iI_mul, iI_neg, iI_and, iI_or, iI_xor, iI_shl, iI_shr, iI_ushr, iI_div, iI_b, iI_c, iI_i2l, lI_l2i, lI_add, lI_sub, lI_mul, lI_neg, lI_div, lI_or, lI_and, lI_shl, lI_shr, nI_iI, lg_lt0, lg_gt0, lg_eq0, i_ne0', l_ne0', iI_lt, iI_le, iI_eq, lI_lt, lI_le, lI_eq, zb_0, zb_fit, zb_fit0, zb_fit1, i_one_zero, i_w_in, z_tb0, z_tb1, z_tb2, z_tb3, z_tb4, z_tb5, z_tb6, z_tb7, z_tb8, z_tbl, z_tu0, z_tu1, z_tu2, z_i_62, z_i_63, z_i_86, z_i_88, z_l_Y, z_ui_62, z_ui_63, z_ui_86, z_ui_88, z_ul_Y, z_sz_Y, z_sw_Y, iI_nat, z_ix_t, z_at, Int.add_zero, Int.sub_zero, Int.zero_add, Int.mul_zero, ne_eq, Bool.false_eq_true, Bool.true_eq_false, reduceCtorEq, eq_self, and_true, true_and, and_false, false_and, and_self, not_true_eq_false, not_false_eq_true, decide_true, decide_false, ↓reduceIte, Int.reduceEq, Int.reduceNe, Int.reduceLT, Int.reduceLE, Int.reduceAdd, Int.reduceSub, Int.reduceMul, Int.reduceNeg, Nat.reduceAdd, Nat.reduceEqDiff, Nat.reduceBEq, ↓z_x_eq, z_g_t, z_bI_s, z_bL_s, z_bR_s, z_bV_s, Int.cast_ofNat_Int, beq_self_eq_true, Bool.and_true, Bool.true_and, Bool.and_self, Bool.or_true, Bool.true_or, Bool.false_and, Bool.and_false, Bool.false_or, Bool.or_false, Bool.not_false, Bool.not_true, if_true, if_false, ite_true, ite_false, z_up_eq, z_up_app, z_ro_eq, sl, ci, ca, q1', q2', e, em, q3', ih]
      · have q2' : (m < t) = False := eq_false q2
        rw [if_neg (fun z => q2 z.1)]
        have ih := p_wo d T G s hS hB hf cs (i + 1) k (t + 1) (by omega) (by omega) hc' (by omega) (by omega) (by omega) (by omega)
        simp -implicitDefEqProofs (disch := first | assumption | omega | rfl | (simp only [z_up_eq, z_up_app, ↓reduceIte, Nat.reduceEqDiff]; omega)) only [z_lit0, z_lit1, z_lit2, z_litl, iI_add, iI_sub, iI_mul, iI_neg, iI_and, iI_or, iI_xor, iI_shl, iI_shr, iI_ushr, iI_div, iI_b, iI_c, iI_i2l, lI_l2i, lI_add, lI_sub, lI_mul, lI_neg, lI_div, lI_or, lI_and, lI_shl, lI_shr, nI_iI, lg_lt0, lg_gt0, lg_eq0, i_ne0', l_ne0', iI_lt, iI_le, iI_eq, lI_lt, lI_le, lI_eq, zb_0, zb_fit, zb_fit0, zb_fit1, i_one_zero, i_w_in, z_tb0, z_tb1, z_tb2, z_tb3, z_tb4, z_tb5, z_tb6, z_tb7, z_tb8, z_tbl, z_tu0, z_tu1, z_tu2, z_i_62, z_i_63, z_i_86, z_i_88, z_l_Y, z_ui_62, z_ui_63, z_ui_86, z_ui_88, z_ul_Y, z_sz_Y, z_sw_Y, iI_nat, z_ix_t, z_at, Int.add_zero, Int.sub_zero, Int.zero_add, Int.mul_zero, ne_eq, Bool.false_eq_true, Bool.true_eq_false, reduceCtorEq, eq_self, and_true, true_and, and_false, false_and, and_self, not_true_eq_false, not_false_eq_true, decide_true, decide_false, ↓reduceIte, Int.reduceEq, Int.reduceNe, Int.reduceLT, Int.reduceLE, Int.reduceAdd, Int.reduceSub, Int.reduceMul, Int.reduceNeg, Nat.reduceAdd, Nat.reduceEqDiff, Nat.reduceBEq, ↓z_x_eq, z_g_t, z_bI_s, z_bL_s, z_bR_s, z_bV_s, Int.cast_ofNat_Int, beq_self_eq_true, Bool.and_true, Bool.true_and, Bool.and_self, Bool.or_true, Bool.true_or, Bool.false_and, Bool.and_false, Bool.false_or, Bool.or_false, Bool.not_false, Bool.not_true, if_true, if_false, ite_true, ite_false, z_up_eq, z_up_app, z_ro_eq, sl, ci, ca, q1', q2', ih]
theorem p_wordOf (d : Nat) (T : ZT) (G : ZG) (s : ZG × ZG) {B : Int → Int} {L f t : Int} (hS : y_S G) (hB : y_tp G B L) (hf : 0 ≤ f ∧ f ≤ t ∧ t ≤ L) : z_call (d + 5) 45 [vr 55, vi (iI f), vi (iI t)] (z_Y T G s) = some (vi (iI (y_word B f t)), z_Y T G s) := by
  have e := p_wo d T G s hS hB hf y_wd 0 18 f (by omega) (by rw [y_wd_len]; omega) (fun q _ => by rw [show (0 : Int).toNat + q = q by omega]) (by omega) (by rw [y_wd_len]; omega) (by omega) (by omega)
  have e2 : y_wo B f t y_wd 18 f = y_word B f t := y_wo_all (n := (t - f).toNat) (by omega) y_tb 18 y_tb_32
  rw [e2] at e
  rw [e_Re_wordOf]
  simp -implicitDefEqProofs (disch := first | assumption | omega | rfl | (simp only [z_up_eq, z_up_app, ↓reduceIte, Nat.reduceEqDiff]; omega)) only [z_lit0, z_lit1, z_lit2, z_litl, iI_add, iI_sub, iI_mul, iI_neg, iI_and, iI_or, iI_xor, iI_shl, iI_shr, iI_ushr, iI_div, iI_b, iI_c, iI_i2l, lI_l2i, lI_add, lI_sub, lI_mul, lI_neg, lI_div, lI_or, lI_and, lI_shl, lI_shr, nI_iI, lg_lt0, lg_gt0, lg_eq0, i_ne0', l_ne0', iI_lt, iI_le, iI_eq, lI_lt, lI_le, lI_eq, zb_0, zb_fit, zb_fit0, zb_fit1, i_one_zero, i_w_in, z_tb0, z_tb1, z_tb2, z_tb3, z_tb4, z_tb5, z_tb6, z_tb7, z_tb8, z_tbl, z_tu0, z_tu1, z_tu2, z_i_62, z_i_63, z_i_86, z_i_88, z_l_Y, z_ui_62, z_ui_63, z_ui_86, z_ui_88, z_ul_Y, z_sz_Y, z_sw_Y, iI_nat, z_ix_t, z_at, Int.add_zero, Int.sub_zero, Int.zero_add, Int.mul_zero, ne_eq, Bool.false_eq_true, Bool.true_eq_false, reduceCtorEq, eq_self, and_true, true_and, and_false, false_and, and_self, not_true_eq_false, not_false_eq_true, decide_true, decide_false, ↓reduceIte, Int.reduceEq, Int.reduceNe, Int.reduceLT, Int.reduceLE, Int.reduceAdd, Int.reduceSub, Int.reduceMul, Int.reduceNeg, Nat.reduceAdd, Nat.reduceEqDiff, Nat.reduceBEq, ↓z_x_eq, z_g_t, z_bI_s, z_bL_s, z_bR_s, z_bV_s, Int.cast_ofNat_Int, beq_self_eq_true, Bool.and_true, Bool.true_and, Bool.and_self, Bool.or_true, Bool.true_or, Bool.false_and, Bool.and_false, Bool.false_or, Bool.or_false, Bool.not_false, Bool.not_true, if_true, if_false, ite_true, ite_false, z_up_eq, z_up_app, z_ro_eq, e]
/-- a number, no farther than ten thousand -/
def y_num (B : Int → Int) : Nat → Int → Int → Int
  | 0, _, n => n
  | m + 1, p, n => y_num B m (p + 1) (min (n * 10 + B p - 48) 10000)
theorem p_num (d : Nat) (T : ZT) (G : ZG) (s : ZG × ZG) {B : Int → Int} {L t : Int} (hB : y_tp G B L) (ht : t ≤ L) : ∀ (m : Nat) (p n : Int), 0 ≤ p → p + m = t → (∀ k, p ≤ k → k < t → y_dig (B k) = true) → 0 ≤ n → n ≤ 10000 → z_w d_Re_numberOf (z_call (d + 1)) 5 [some (vr 55), none, some (vi (iI t)), some (vi (iI n)), some (vi (iI p))] [] (z_Y T G s) = some (vi (iI (y_num B m p n)), z_Y T G s) ∧ 0 ≤ y_num B m p n ∧ y_num B m p n ≤ 10000
  | 0, p, n, h0, h, hd, hn, hn2 => by
    have hL := hB.1
    have c : (p < t) = False := eq_false (by omega)
    refine ⟨?_, hn, hn2⟩
    rw [e_Re_numberOf_5]
    simp -implicitDefEqProofs (disch := first | assumption | omega | rfl | (simp only [z_up_eq, z_up_app, ↓reduceIte, Nat.reduceEqDiff]; omega)) only [z_lit0, z_lit1, z_lit2, z_litl, iI_add, iI_sub, iI_mul, iI_neg, iI_and, iI_or, iI_xor, iI_shl, iI_shr, iI_ushr, iI_div, iI_b, iI_c, iI_i2l, lI_l2i, lI_add, lI_sub, lI_mul, lI_neg, lI_div, lI_or, lI_and, lI_shl, lI_shr, nI_iI, lg_lt0, lg_gt0, lg_eq0, i_ne0', l_ne0', iI_lt, iI_le, iI_eq, lI_lt, lI_le, lI_eq, zb_0, zb_fit, zb_fit0, zb_fit1, i_one_zero, i_w_in, z_tb0, z_tb1, z_tb2, z_tb3, z_tb4, z_tb5, z_tb6, z_tb7, z_tb8, z_tbl, z_tu0, z_tu1, z_tu2, z_i_62, z_i_63, z_i_86, z_i_88, z_l_Y, z_ui_62, z_ui_63, z_ui_86, z_ui_88, z_ul_Y, z_sz_Y, z_sw_Y, iI_nat, z_ix_t, z_at, Int.add_zero, Int.sub_zero, Int.zero_add, Int.mul_zero, ne_eq, Bool.false_eq_true, Bool.true_eq_false, reduceCtorEq, eq_self, and_true, true_and, and_false, false_and, and_self, not_true_eq_false, not_false_eq_true, decide_true, decide_false, ↓reduceIte, Int.reduceEq, Int.reduceNe, Int.reduceLT, Int.reduceLE, Int.reduceAdd, Int.reduceSub, Int.reduceMul, Int.reduceNeg, Nat.reduceAdd, Nat.reduceEqDiff, Nat.reduceBEq, ↓z_x_eq, z_g_t, z_bI_s, z_bL_s, z_bR_s, z_bV_s, Int.cast_ofNat_Int, beq_self_eq_true, Bool.and_true, Bool.true_and, Bool.and_self, Bool.or_true, Bool.true_or, Bool.false_and, Bool.and_false, Bool.false_or, Bool.or_false, Bool.not_false, Bool.not_true, if_true, if_false, ite_true, ite_false, z_up_eq, z_up_app, z_ro_eq, c]
    rfl
  | m + 1, p, n, h0, h, hd, hn, hn2 => by
    have hL := hB.1
    have c : (p < t) = True := eq_true (by omega)
    have hb := hB.2 p h0 (by omega)
    have dg := of_decide_eq_true (hd p (by omega) (by omega))
    have e := hb.2
    rw [show y_sb (B p) = B p from if_pos (by omega)] at e
    obtain ⟨ih, k1, k2⟩ := p_num d T G s hB ht m (p + 1) (min (n * 10 + B p - 48) 10000) (by omega) (by omega) (fun k a b => hd k (by omega) b) (by omega) (by omega)
    refine ⟨?_, k1, k2⟩
    show _ = some (vi (iI (y_num B m (p + 1) (min (n * 10 + B p - 48) 10000))), z_Y T G s)
    rw [e_Re_numberOf_5, ← ih]
    simp -implicitDefEqProofs (disch := first | assumption | omega | rfl | (simp only [z_up_eq, z_up_app, ↓reduceIte, Nat.reduceEqDiff]; omega)) only [z_lit0, z_lit1, z_lit2, z_litl, iI_add, iI_sub, iI_mul, iI_neg, iI_and, iI_or, iI_xor, iI_shl, iI_shr, iI_ushr, iI_div, iI_b, iI_c, iI_i2l, lI_l2i, lI_add, lI_sub, lI_mul, lI_neg, lI_div, lI_or, lI_and, lI_shl, lI_shr, nI_iI, lg_lt0, lg_gt0, lg_eq0, i_ne0', l_ne0', iI_lt, iI_le, iI_eq, lI_lt, lI_le, lI_eq, zb_0, zb_fit, zb_fit0, zb_fit1, i_one_zero, i_w_in, z_tb0, z_tb1, z_tb2, z_tb3, z_tb4, z_tb5, z_tb6, z_tb7, z_tb8, z_tbl, z_tu0, z_tu1, z_tu2, z_i_62, z_i_63, z_i_86, z_i_88, z_l_Y, z_ui_62, z_ui_63, z_ui_86, z_ui_88, z_ul_Y, z_sz_Y, z_sw_Y, iI_nat, z_ix_t, z_at, Int.add_zero, Int.sub_zero, Int.zero_add, Int.mul_zero, ne_eq, Bool.false_eq_true, Bool.true_eq_false, reduceCtorEq, eq_self, and_true, true_and, and_false, false_and, and_self, not_true_eq_false, not_false_eq_true, decide_true, decide_false, ↓reduceIte, Int.reduceEq, Int.reduceNe, Int.reduceLT, Int.reduceLE, Int.reduceAdd, Int.reduceSub, Int.reduceMul, Int.reduceNeg, Nat.reduceAdd, Nat.reduceEqDiff, Nat.reduceBEq, ↓z_x_eq, z_g_t, z_bI_s, z_bL_s, z_bR_s, z_bV_s, Int.cast_ofNat_Int, beq_self_eq_true, Bool.and_true, Bool.true_and, Bool.and_self, Bool.or_true, Bool.true_or, Bool.false_and, Bool.and_false, Bool.false_or, Bool.or_false, Bool.not_false, Bool.not_true, if_true, if_false, ite_true, ite_false, z_up_eq, z_up_app, z_ro_eq, c, e, p_min]

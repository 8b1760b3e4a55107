/-! THE PURE PART, 68: a duel, the class's game -/
theorem p_wouldW (d : Nat) (T : ZT) (G : ZG) (s : ZG × ZG) {no ai : Int} {V W : Int → Int} (hQ : c_q T G) (hv : v_ok G no V) (ha : -1000 ≤ ai ∧ ai ≤ 1000) : ∃ V' s', z_call (d + 4) 240 [vr 61, vi (iI ai)] (z_Y T (z_up (z_up G 64 V) 79 W) s) = some (vi (iI (zb (m_holds (G 81) (G 83) (G 81 6) no ai (G 81 (82 + 2 * no))))), z_Y T (z_up (z_up G 64 V') 79 W) s') ∧ v_ok G no V' := by
  have hQ' : c_q T (z_up G 79 W) := cq_eq hQ (fun r a => z_up_ne _ _ (by omega))
  have hv' : v_ok (z_up G 79 W) no V := v_ok_eq hv (z_up_ne _ _ (by omega)) (z_up_ne _ _ (by omega)) (z_up_ne _ _ (by omega))
  obtain ⟨v, τ, e, rfl, V', s', rfl, k⟩ := p_would d T (z_up G 79 W) s hQ' hv' ha
  rw [z_up_cm _ _ _ (show 64 < 79 by omega), z_up_cm _ _ _ (show 64 < 79 by omega), z_up_ne _ _ (show 81 ≠ 79 by omega), z_up_ne _ _ (show 83 ≠ 79 by omega)] at e
  exact ⟨V', s', e, v_ok_eq k (z_up_ne _ _ (by omega)).symm (z_up_ne _ _ (by omega)).symm (z_up_ne _ _ (by omega)).symm⟩
theorem g_or5 {f : Nat} (hf : f ≤ 5) {a i : Int} (ha : 0 ≤ a ∧ a < 2 ^ f) (hi : 0 ≤ i ∧ i < f) : (i_has a i = true → i_or a (i_shl 1 i) = a) ∧ (i_has a i = false → i_or a (i_shl 1 i) = a + 2 ^ i.toNat ∧ a < a + 2 ^ i.toNat ∧ a + 2 ^ i.toNat < 2 ^ f ∧ i_bits (a + 2 ^ i.toNat) = i_bits a + 1) := by
  have p2 : (1 : Int) ≤ 2 ^ f ∧ (2 : Int) ^ f ≤ 32 := by
    have q : ∀ k : Nat, k ≤ 5 → (1 : Int) ≤ 2 ^ k ∧ (2 : Int) ^ k ≤ 32 := by decide
    exact q f hf
  have e := d_b5 a.toNat (by omega) i.toNat (by omega)
  rw [show ((a.toNat + 2 ^ i.toNat : Nat) : Int) = a + 2 ^ i.toNat by simp; omega, show ((a.toNat : Nat) : Int) = a by omega, show ((i.toNat : Nat) : Int) = i by omega] at e
  refine ⟨e.1, fun h => ?_⟩
  obtain ⟨q1, q2, q3⟩ := g_or (n := f) (by omega) ha hi h
  exact ⟨q1, q2, q3, (e.2 h).2⟩
/-- a set of both, out of two -/
theorem g_spl {f : Nat} (hf : f ≤ 5) {a b k : Int} (ha : 0 ≤ a ∧ a < 2 ^ f) (hb : 0 ≤ b ∧ b < 32) (hk : 0 ≤ k ∧ k < 10) : i_has (a + 2 ^ f * b) k = if k < f then i_has a k else i_has b (k - f) := by
  have p2 : (1 : Int) ≤ 2 ^ f ∧ (2 : Int) ^ f ≤ 32 := by
    have q : ∀ k : Nat, k ≤ 5 → (1 : Int) ≤ 2 ^ k ∧ (2 : Int) ^ k ≤ 32 := by decide
    exact q f hf
  have e := d_spl f (by omega) a.toNat (by
    have : ((a.toNat : Nat) : Int) < ((2 ^ f : Nat) : Int) := by rw [show ((2 ^ f : Nat) : Int) = (2 : Int) ^ f by simp]; omega
    omega) b.toNat (by omega) k.toNat (by omega)
  rw [show ((a.toNat + 2 ^ f * b.toNat : Nat) : Int) = a + 2 ^ f * b by
    rw [Int.natCast_add, Int.natCast_mul, show ((2 ^ f : Nat) : Int) = (2 : Int) ^ f by simp, show ((a.toNat : Nat) : Int) = a by omega, show ((b.toNat : Nat) : Int) = b by omega], show ((k.toNat : Nat) : Int) = k by omega, show ((a.toNat : Nat) : Int) = a by omega, show ((b.toNat : Nat) : Int) = b by omega] at e
  rw [e]
  by_cases c : k < f
  · rw [if_pos c, if_pos (by omega)]
  · rw [if_neg c, if_neg (by omega), show ((k.toNat - f : Nat) : Int) = k - f by omega]
theorem z_sum_app {F : Int → Int} : ∀ (n m : Nat) (i : Int), z_sum (n + m) i F = z_sum n i F + z_sum m (i + n) F
  | 0, m, i => by rw [Nat.zero_add]; show z_sum m i F = 0 + z_sum m (i + 0) F; rw [Int.zero_add, Int.add_zero]
  | n + 1, m, i => by
    rw [show n + 1 + m = (n + m) + 1 by omega]
    show F i + z_sum (n + m) (i + 1) F = F i + z_sum n (i + 1) F + z_sum m (i + ((n + 1 : Nat) : Int)) F
    rw [z_sum_app n m (i + 1), show i + 1 + (n : Int) = i + ((n + 1 : Nat) : Int) by omega]
    omega
theorem z_sum_sh {F H : Int → Int} : ∀ (n : Nat) (i j : Int), (∀ k : Int, 0 ≤ k → k < n → F (i + k) = H (j + k)) → z_sum n i F = z_sum n j H
  | 0, _, _, _ => rfl
  | n + 1, i, j, h => by
    show F i + z_sum n (i + 1) F = H j + z_sum n (j + 1) H
    have h0 := h 0 (by omega) (by omega)
    rw [Int.add_zero, Int.add_zero] at h0
    rw [h0, z_sum_sh n (i + 1) (j + 1) (fun k a b => by have := h (k + 1) (by omega) (by omega); rw [show i + 1 + k = i + (k + 1) by omega, show j + 1 + k = j + (k + 1) by omega]; exact this)]
theorem g_su_spl {A X D F S : Int → Int} {be : Int} {f g : Nat} (hf : f ≤ 5) (hg : g ≤ 5) (hF : ∀ k : Int, 0 ≤ k → k < f → D k = F k) (hS : ∀ k : Int, 0 ≤ k → k < g → D (f + k) = S k) {a b : Int} (ha : 0 ≤ a ∧ a < 2 ^ f) (hb : 0 ≤ b ∧ b < 32) : g_su A X D be (f + g) (a + 2 ^ f * b) = g_su A X F be f a + g_su A X S be g b := by
  unfold g_su
  rw [z_sum_app]
  congr 1
  · refine z_sum_eq _ _ (fun k e1 e2 => ?_)
    rw [g_spl hf ha hb ⟨e1, by omega⟩, show (if k < (f : Int) then i_has a k else i_has b (k - f)) = i_has a k from if_pos (by omega), hF k e1 (by omega)]
  · refine z_sum_sh _ _ _ (fun k e1 e2 => ?_)
    rw [Int.zero_add, Int.zero_add, g_spl hf ha hb ⟨by omega, by omega⟩, show (if (f : Int) + k < (f : Int) then i_has a (f + k) else i_has b (f + k - f)) = i_has b (f + k - f) from if_neg (by omega), hS k e1 e2, show (f : Int) + k - f = k by omega]
theorem p_fm (d : Nat) (T : ZT) (G : ZG) {no a b air : Int} {f : Nat} {W : Int → Int} (hQ : c_q T G) (hf : f ≤ 5) (ha : 0 ≤ a ∧ a < 2 ^ f) (hb : 0 ≤ b ∧ b < 32) (hai : ∀ a' : Int, 0 ≤ a' → a' < 2 ^ f → -1000 ≤ air + G 77 a' + G 78 b ∧ air + G 77 a' + G 78 b ≤ 1000) : ∀ (m : Nat) (i : Int) (V : Int → Int) (s : ZG × ZG), 0 ≤ i → i + m = f → v_ok G no V → ∃ V' s', z_w d_Ga_firstMove (z_call (d + 4)) 3 [some (vr 70), some (vi (iI a)), some (vi (iI b)), some (vi (iI f)), some (vi (iI air)), some (vi (iI i)), none] [] (z_Y T (z_up (z_up G 64 V) 79 W) s) = some (vi (iI (z_find m i (fun i => !(i_has a i) && m_holds (G 81) (G 83) (G 81 6) no (air + G 77 (i_or a (i_shl 1 i)) + G 78 b) (G 81 (82 + 2 * no)) && !(i_has (W (i_or a (i_shl 1 i))) b)))), z_Y T (z_up (z_up G 64 V') 79 W) s') ∧ v_ok G no V'
  | 0, i, V, s, h0, h, hv => by
    have c : (i < f) = False := eq_false (by omega)
    refine ⟨V, s, ?_, hv⟩
    rw [e_Ga_firstMove_3]
    simp -implicitDefEqProofs (disch := first | assumption | omega | rfl | (simp only [z_up_eq, z_up_app, ↓reduceIte, Nat.reduceEqDiff]; omega)) only [z_lit0, z_lit1, z_lit2, z_litl, iI_add, iI_sub, iI_mul, iI_neg, iI_and, iI_or, iI_xor, iI_shl, iI_shr, iI_ushr, iI_div, iI_b, iI_c, iI_i2l, lI_l2i, lI_add, lI_sub, lI_mul, lI_neg, lI_div, lI_or, lI_and, lI_shl, lI_shr, nI_iI, lg_lt0, lg_gt0, lg_eq0, i_ne0', l_ne0', iI_lt, iI_le, iI_eq, lI_lt, lI_le, lI_eq, zb_0, zb_fit, zb_fit0, zb_fit1, i_one_zero, i_w_in, z_tb0, z_tb1, z_tb2, z_tb3, z_tb4, z_tb5, z_tb6, z_tb7, z_tb8, z_tbl, z_tu0, z_tu1, z_tu2, z_i_62, z_i_63, z_i_86, z_i_88, z_l_Y, z_ui_62, z_ui_63, z_ui_86, z_ui_88, z_ul_Y, z_sz_Y, z_sw_Y, iI_nat, z_ix_t, z_at, Int.add_zero, Int.sub_zero, Int.zero_add, Int.mul_zero, ne_eq, Bool.false_eq_true, Bool.true_eq_false, reduceCtorEq, eq_self, and_true, true_and, and_false, false_and, and_self, not_true_eq_false, not_false_eq_true, decide_true, decide_false, ↓reduceIte, Int.reduceEq, Int.reduceNe, Int.reduceLT, Int.reduceLE, Int.reduceAdd, Int.reduceSub, Int.reduceMul, Int.reduceNeg, Nat.reduceAdd, Nat.reduceEqDiff, Nat.reduceBEq, ↓z_x_eq, z_g_t, z_bI_s, z_bL_s, z_bR_s, z_bV_s, Int.cast_ofNat_Int, beq_self_eq_true, Bool.and_true, Bool.true_and, Bool.and_self, Bool.or_true, Bool.true_or, Bool.false_and, Bool.and_false, Bool.false_or, Bool.or_false, Bool.not_false, Bool.not_true, if_true, if_false, ite_true, ite_false, z_up_eq, z_up_app, z_ro_eq, c]
    rfl
  | m + 1, i, V, s, h0, h, hv => by
    have p2 : (1 : Int) ≤ 2 ^ f ∧ (2 : Int) ^ f ≤ 32 := by
      have q : ∀ k : Nat, k ≤ 5 → (1 : Int) ≤ 2 ^ k ∧ (2 : Int) ^ k ≤ 32 := by decide
      exact q f hf
    have c : (i < f) = True := eq_true (by omega)
    obtain ⟨q1, q2⟩ := g_or5 hf ha ⟨h0, (by omega : i < f)⟩
    have ez : ∀ P : Int → Bool, z_find (m + 1) i P = cond (P i) i (z_find m (i + 1) P) := fun P => rfl
    rw [ez]
    cases hh : i_has a i
    · obtain ⟨e, e1, e2, e3⟩ := q2 hh
      have ne : (a + 2 ^ i.toNat = a) = False := eq_false (by omega)
      rw [e]
      obtain ⟨V1, s1, ew, hv1⟩ := p_wouldW d T G s (no := no) (ai := air + G 77 (a + 2 ^ i.toNat) + G 78 b) (V := V) (W := W) hQ hv (hai _ (by omega) e2)
      generalize a + 2 ^ i.toNat = a' at *
      cases h1 : m_holds (G 81) (G 83) (G 81 6) no (air + G 77 a' + G 78 b) (G 81 (82 + 2 * no))
      · obtain ⟨V', s', ih, k⟩ := p_fm d T G (air := air) (W := W) hQ hf ha hb hai m (i + 1) V1 s1 (by omega) (by omega) hv1
        rw [h1] at ew
        refine ⟨V', s', ?_, k⟩
        refine Eq.trans ?_ ih
        rw [e_Ga_firstMove_3]
        simp -implicitDefEqProofs (disch := first | assumption | omega | rfl | (simp only [z_up_eq, z_up_app, ↓reduceIte, Nat.reduceEqDiff]; omega)) only [z_lit0, z_lit1, z_lit2, z_litl, iI_add, iI_sub, iI_mul, iI_neg, iI_and, iI_or, iI_xor, iI_shl, iI_shr, iI_ushr, iI_div, iI_b, iI_c, iI_i2l, lI_l2i, lI_add, lI_sub, lI_mul, lI_neg, lI_div, lI_or, lI_and, lI_shl, lI_shr, nI_iI, lg_lt0, lg_gt0, lg_eq0, i_ne0', l_ne0', iI_lt, iI_le, iI_eq, lI_lt, lI_le, lI_eq, zb_0, zb_fit, zb_fit0, zb_fit1, i_one_zero, i_w_in, z_tb0, z_tb1, z_tb2, z_tb3, z_tb4, z_tb5, z_tb6, z_tb7, z_tb8, z_tbl, z_tu0, z_tu1, z_tu2, z_i_62, z_i_63, z_i_86, z_i_88, z_l_Y, z_ui_62, z_ui_63, z_ui_86, z_ui_88, z_ul_Y, z_sz_Y, z_sw_Y, iI_nat, z_ix_t, z_at, Int.add_zero, Int.sub_zero, Int.zero_add, Int.mul_zero, ne_eq, Bool.false_eq_true, Bool.true_eq_false, reduceCtorEq, eq_self, and_true, true_and, and_false, false_and, and_self, not_true_eq_false, not_false_eq_true, decide_true, decide_false, ↓reduceIte, Int.reduceEq, Int.reduceNe, Int.reduceLT, Int.reduceLE, Int.reduceAdd, Int.reduceSub, Int.reduceMul, Int.reduceNeg, Nat.reduceAdd, Nat.reduceEqDiff, Nat.reduceBEq, ↓z_x_eq, z_g_t, z_bI_s, z_bL_s, z_bR_s, z_bV_s, Int.cast_ofNat_Int, beq_self_eq_true, Bool.and_true, Bool.true_and, Bool.and_self, Bool.or_true, Bool.true_or, Bool.false_and, Bool.and_false, Bool.false_or, Bool.or_false, Bool.not_false, Bool.not_true, if_true, if_false, ite_true, ite_false, z_up_eq, z_up_app, z_ro_eq, c, e, ne, ew, zb_f]
      · rw [h1] at ew
        cases h2 : i_has (W a') b
        · refine ⟨V1, s1, ?_, hv1⟩
          rw [e_Ga_firstMove_3]
          simp -implicitDefEqProofs (disch := first | assumption | omega | rfl | (simp only [z_up_eq, z_up_app, ↓reduceIte, Nat.reduceEqDiff]; omega)) only [z_lit0, z_lit1, z_lit2, z_litl, iI_add, iI_sub, iI_mul, iI_neg, iI_and, iI_or, iI_xor, iI_shl, iI_shr, iI_ushr, iI_div, iI_b, iI_c, iI_i2l, lI_l2i, lI_add, lI_sub, lI_mul, lI_neg, lI_div, lI_or, lI_and, lI_shl, lI_shr, nI_iI, lg_lt0, lg_gt0, lg_eq0, i_ne0', l_ne0', iI_lt, iI_le, iI_eq, lI_lt, lI_le, lI_eq, zb_0, zb_fit, zb_fit0, zb_fit1, i_one_zero, i_w_in, z_tb0, z_tb1, z_tb2, z_tb3, z_tb4, z_tb5, z_tb6, z_tb7, z_tb8, z_tbl, z_tu0, z_tu1, z_tu2, z_i_62, z_i_63, z_i_86, z_i_88, z_l_Y, z_ui_62, z_ui_63, z_ui_86, z_ui_88, z_ul_Y, z_sz_Y, z_sw_Y, iI_nat, z_ix_t, z_at, Int.add_zero, Int.sub_zero, Int.zero_add, Int.mul_zero, ne_eq, Bool.false_eq_true, Bool.true_eq_false, reduceCtorEq, eq_self, and_true, true_and, and_false, false_and, and_self, not_true_eq_false, not_false_eq_true, decide_true, decide_false, ↓reduceIte, Int.reduceEq, Int.reduceNe, Int.reduceLT, Int.reduceLE, Int.reduceAdd, Int.reduceSub, Int.reduceMul, Int.reduceNeg, Nat.reduceAdd, Nat.reduceEqDiff, Nat.reduceBEq, ↓z_x_eq, z_g_t, z_bI_s, z_bL_s, z_bR_s, z_bV_s, Int.cast_ofNat_Int, beq_self_eq_true, Bool.and_true, Bool.true_and, Bool.and_self, Bool.or_true, Bool.true_or, Bool.false_and, Bool.and_false, Bool.false_or, Bool.or_false, Bool.not_false, Bool.not_true, if_true, if_false, ite_true, ite_false, z_up_eq, z_up_app, z_ro_eq, c, e, ne, ew, zb_t, p_has, h2, zb_f]
          rfl
        · obtain ⟨V', s', ih, k⟩ := p_fm d T G (air := air) (W := W) hQ hf ha hb hai m (i + 1) V1 s1 (by omega) (by omega) hv1
          refine ⟨V', s', ?_, k⟩
          refine Eq.trans ?_ ih
          rw [e_Ga_firstMove_3]
          simp -implicitDefEqProofs (disch := first | assumption | omega | rfl | (simp only [z_up_eq, z_up_app, ↓reduceIte, Nat.reduceEqDiff]; omega)) only [z_lit0, z_lit1, z_lit2, z_litl, iI_add, iI_sub, iI_mul, iI_neg, iI_and, iI_or, iI_xor, iI_shl, iI_shr, iI_ushr, iI_div, iI_b, iI_c, iI_i2l, lI_l2i, lI_add, lI_sub, lI_mul, lI_neg, lI_div, lI_or, lI_and, lI_shl, lI_shr, nI_iI, lg_lt0, lg_gt0, lg_eq0, i_ne0', l_ne0', iI_lt, iI_le, iI_eq, lI_lt, lI_le, lI_eq, zb_0, zb_fit, zb_fit0, zb_fit1, i_one_zero, i_w_in, z_tb0, z_tb1, z_tb2, z_tb3, z_tb4, z_tb5, z_tb6, z_tb7, z_tb8, z_tbl, z_tu0, z_tu1, z_tu2, z_i_62, z_i_63, z_i_86, z_i_88, z_l_Y, z_ui_62, z_ui_63, z_ui_86, z_ui_88, z_ul_Y, z_sz_Y, z_sw_Y, iI_nat, z_ix_t, z_at, Int.add_zero, Int.sub_zero, Int.zero_add, Int.mul_zero, ne_eq, Bool.false_eq_true, Bool.true_eq_false, reduceCtorEq, eq_self, and_true, true_and, and_false, false_and, and_self, not_true_eq_false, not_false_eq_true, decide_true, decide_false, ↓reduceIte, Int.reduceEq, Int.reduceNe, Int.reduceLT, Int.reduceLE, Int.reduceAdd, Int.reduceSub, Int.reduceMul, Int.reduceNeg, Nat.reduceAdd, Nat.reduceEqDiff, Nat.reduceBEq, ↓z_x_eq, z_g_t, z_bI_s, z_bL_s, z_bR_s, z_bV_s, Int.cast_ofNat_Int, beq_self_eq_true, Bool.and_true, Bool.true_and, Bool.and_self, Bool.or_true, Bool.true_or, Bool.false_and, Bool.and_false, Bool.false_or, Bool.or_false, Bool.not_false, Bool.not_true, if_true, if_false, ite_true, ite_false, z_up_eq, z_up_app, z_ro_eq, c, e, ne, ew, zb_t, p_has, h2]
    · obtain ⟨V', s', ih, k⟩ := p_fm d T G (air := air) (W := W) hQ hf ha hb hai m (i + 1) V s (by omega) (by omega) hv
      refine ⟨V', s', ?_, k⟩
      refine Eq.trans ?_ ih
      have e := q1 hh
      rw [e_Ga_firstMove_3]
      simp -implicitDefEqProofs (disch := first | assumption | omega | rfl | (simp only [z_up_eq, z_up_app, ↓reduceIte, Nat.reduceEqDiff]; omega)) only [z_lit0, z_lit1, z_lit2, z_litl, iI_add, iI_sub, iI_mul, iI_neg, iI_and, iI_or, iI_xor, iI_shl, iI_shr, iI_ushr, iI_div, iI_b, iI_c, iI_i2l, lI_l2i, lI_add, lI_sub, lI_mul, lI_neg, lI_div, lI_or, lI_and, lI_shl, lI_shr, nI_iI, lg_lt0, lg_gt0, lg_eq0, i_ne0', l_ne0', iI_lt, iI_le, iI_eq, lI_lt, lI_le, lI_eq, zb_0, zb_fit, zb_fit0, zb_fit1, i_one_zero, i_w_in, z_tb0, z_tb1, z_tb2, z_tb3, z_tb4, z_tb5, z_tb6, z_tb7, z_tb8, z_tbl, z_tu0, z_tu1, z_tu2, z_i_62, z_i_63, z_i_86, z_i_88, z_l_Y, z_ui_62, z_ui_63, z_ui_86, z_ui_88, z_ul_Y, z_sz_Y, z_sw_Y, iI_nat, z_ix_t, z_at, Int.add_zero, Int.sub_zero, Int.zero_add, Int.mul_zero, ne_eq, Bool.false_eq_true, Bool.true_eq_false, reduceCtorEq, eq_self, and_true, true_and, and_false, false_and, and_self, not_true_eq_false, not_false_eq_true, decide_true, decide_false, ↓reduceIte, Int.reduceEq, Int.reduceNe, Int.reduceLT, Int.reduceLE, Int.reduceAdd, Int.reduceSub, Int.reduceMul, Int.reduceNeg, Nat.reduceAdd, Nat.reduceEqDiff, Nat.reduceBEq, ↓z_x_eq, z_g_t, z_bI_s, z_bL_s, z_bR_s, z_bV_s, Int.cast_ofNat_Int, beq_self_eq_true, Bool.and_true, Bool.true_and, Bool.and_self, Bool.or_true, Bool.true_or, Bool.false_and, Bool.and_false, Bool.false_or, Bool.or_false, Bool.not_false, Bool.not_true, if_true, if_false, ite_true, ite_false, z_up_eq, z_up_app, z_ro_eq, c, e]
theorem p_sw2 (d : Nat) (T : ZT) (G : ZG) {no a b air : Int} {g : Nat} {W : Int → Int} (hQ : c_q T G) (hg : g ≤ 5) (hb : 0 ≤ b ∧ b < 2 ^ g) (ha : 0 ≤ a ∧ a < 32) (hai : ∀ b' : Int, 0 ≤ b' → b' < 2 ^ g → -1000 ≤ air + G 77 a + G 78 b' ∧ air + G 77 a + G 78 b' ≤ 1000) : ∀ (m : Nat) (i : Int) (V : Int → Int) (s : ZG × ZG), 0 ≤ i → i + m = g → v_ok G no V → ∃ V' s', z_w d_Ga_secondWins (z_call (d + 4)) 3 [some (vr 70), some (vi (iI a)), some (vi (iI b)), some (vi (iI g)), some (vi (iI air)), some (vi (iI i)), none] [] (z_Y T (z_up (z_up G 64 V) 79 W) s) = some (vi (iI (zb (z_any m i (fun i => !(i_has b i) && m_holds (G 81) (G 83) (G 81 6) no (air + G 77 a + G 78 (i_or b (i_shl 1 i))) (G 81 (82 + 2 * no)) && !(i_has (W a) (i_or b (i_shl 1 i))))))), z_Y T (z_up (z_up G 64 V') 79 W) s') ∧ v_ok G no V'
  | 0, i, V, s, h0, h, hv => by
    have c : (i < g) = False := eq_false (by omega)
    refine ⟨V, s, ?_, hv⟩
    rw [e_Ga_secondWins_3]
    simp -implicitDefEqProofs (disch := first | assumption | omega | rfl | (simp only [z_up_eq, z_up_app, ↓reduceIte, Nat.reduceEqDiff]; omega)) only [z_lit0, z_lit1, z_lit2, z_litl, iI_add, iI_sub, iI_mul, iI_neg, iI_and, iI_or, iI_xor, iI_shl, iI_shr, iI_ushr, iI_div, iI_b, iI_c, iI_i2l, lI_l2i, lI_add, lI_sub, lI_mul, lI_neg, lI_div, lI_or, lI_and, lI_shl, lI_shr, nI_iI, lg_lt0, lg_gt0, lg_eq0, i_ne0', l_ne0', iI_lt, iI_le, iI_eq, lI_lt, lI_le, lI_eq, zb_0, zb_fit, zb_fit0, zb_fit1, i_one_zero, i_w_in, z_tb0, z_tb1, z_tb2, z_tb3, z_tb4, z_tb5, z_tb6, z_tb7, z_tb8, z_tbl, z_tu0, z_tu1, z_tu2, z_i_62, z_i_63, z_i_86, z_i_88, z_l_Y, z_ui_62, z_ui_63, z_ui_86, z_ui_88, z_ul_Y, z_sz_Y, z_sw_Y, iI_nat, z_ix_t, z_at, Int.add_zero, Int.sub_zero, Int.zero_add, Int.mul_zero, ne_eq, Bool.false_eq_true, Bool.true_eq_false, reduceCtorEq, eq_self, and_true, true_and, and_false, false_and, and_self, not_true_eq_false, not_false_eq_true, decide_true, decide_false, ↓reduceIte, Int.reduceEq, Int.reduceNe, Int.reduceLT, Int.reduceLE, Int.reduceAdd, Int.reduceSub, Int.reduceMul, Int.reduceNeg, Nat.reduceAdd, Nat.reduceEqDiff, Nat.reduceBEq, ↓z_x_eq, z_g_t, z_bI_s, z_bL_s, z_bR_s, z_bV_s, Int.cast_ofNat_Int, beq_self_eq_true, Bool.and_true, Bool.true_and, Bool.and_self, Bool.or_true, Bool.true_or, Bool.false_and, Bool.and_false, Bool.false_or, Bool.or_false, Bool.not_false, Bool.not_true, if_true, if_false, ite_true, ite_false, z_up_eq, z_up_app, z_ro_eq, c]
    rfl
  | m + 1, i, V, s, h0, h, hv => by
    have p2 : (1 : Int) ≤ 2 ^ g ∧ (2 : Int) ^ g ≤ 32 := by
      have q : ∀ k : Nat, k ≤ 5 → (1 : Int) ≤ 2 ^ k ∧ (2 : Int) ^ k ≤ 32 := by decide
      exact q g hg
    have c : (i < g) = True := eq_true (by omega)
    obtain ⟨q1, q2⟩ := g_or5 hg hb ⟨h0, (by omega : i < g)⟩
    have ez : ∀ P : Int → Bool, z_any (m + 1) i P = (P i || z_any m (i + 1) P) := fun P => rfl
    rw [ez]
    cases hh : i_has b i
    · obtain ⟨e, e1, e2, e3⟩ := q2 hh
      have ne : (b + 2 ^ i.toNat = b) = False := eq_false (by omega)
      rw [e]
      obtain ⟨V1, s1, ew, hv1⟩ := p_wouldW d T G s (no := no) (ai := air + G 77 a + G 78 (b + 2 ^ i.toNat)) (V := V) (W := W) hQ hv (hai _ (by omega) e2)
      generalize b + 2 ^ i.toNat = b' at *
      cases h1 : m_holds (G 81) (G 83) (G 81 6) no (air + G 77 a + G 78 b') (G 81 (82 + 2 * no))
      · obtain ⟨V', s', ih, k⟩ := p_sw2 d T G (air := air) (W := W) hQ hg hb ha hai m (i + 1) V1 s1 (by omega) (by omega) hv1
        rw [h1] at ew
        refine ⟨V', s', ?_, k⟩
        refine Eq.trans ?_ ih
        rw [e_Ga_secondWins_3]
        simp -implicitDefEqProofs (disch := first | assumption | omega | rfl | (simp only [z_up_eq, z_up_app, ↓reduceIte, Nat.reduceEqDiff]; omega)) only [z_lit0, z_lit1, z_lit2, z_litl, iI_add, iI_sub, iI_mul, iI_neg, iI_and, iI_or, iI_xor, iI_shl, iI_shr, iI_ushr, iI_div, iI_b, iI_c, iI_i2l, lI_l2i, lI_add, lI_sub, lI_mul, lI_neg, lI_div, lI_or, lI_and, lI_shl, lI_shr, nI_iI, lg_lt0, lg_gt0, lg_eq0, i_ne0', l_ne0', iI_lt, iI_le, iI_eq, lI_lt, lI_le, lI_eq, zb_0, zb_fit, zb_fit0, zb_fit1, i_one_zero, i_w_in, z_tb0, z_tb1, z_tb2, z_tb3, z_tb4, z_tb5, z_tb6, z_tb7, z_tb8, z_tbl, z_tu0, z_tu1, z_tu2, z_i_62, z_i_63, z_i_86, z_i_88, z_l_Y, z_ui_62, z_ui_63, z_ui_86, z_ui_88, z_ul_Y, z_sz_Y, z_sw_Y, iI_nat, z_ix_t, z_at, Int.add_zero, Int.sub_zero, Int.zero_add, Int.mul_zero, ne_eq, Bool.false_eq_true, Bool.true_eq_false, reduceCtorEq, eq_self, and_true, true_and, and_false, false_and, and_self, not_true_eq_false, not_false_eq_true, decide_true, decide_false, ↓reduceIte, Int.reduceEq, Int.reduceNe, Int.reduceLT, Int.reduceLE, Int.reduceAdd, Int.reduceSub, Int.reduceMul, Int.reduceNeg, Nat.reduceAdd, Nat.reduceEqDiff, Nat.reduceBEq, ↓z_x_eq, z_g_t, z_bI_s, z_bL_s, z_bR_s, z_bV_s, Int.cast_ofNat_Int, beq_self_eq_true, Bool.and_true, Bool.true_and, Bool.and_self, Bool.or_true, Bool.true_or, Bool.false_and, Bool.and_false, Bool.false_or, Bool.or_false, Bool.not_false, Bool.not_true, if_true, if_false, ite_true, ite_false, z_up_eq, z_up_app, z_ro_eq, c, e, ne, ew, zb_f]
      · rw [h1] at ew
        cases h2 : i_has (W a) b'
        · refine ⟨V1, s1, ?_, hv1⟩
          rw [e_Ga_secondWins_3]
          simp -implicitDefEqProofs (disch := first | assumption | omega | rfl | (simp only [z_up_eq, z_up_app, ↓reduceIte, Nat.reduceEqDiff]; omega)) only [z_lit0, z_lit1, z_lit2, z_litl, iI_add, iI_sub, iI_mul, iI_neg, iI_and, iI_or, iI_xor, iI_shl, iI_shr, iI_ushr, iI_div, iI_b, iI_c, iI_i2l, lI_l2i, lI_add, lI_sub, lI_mul, lI_neg, lI_div, lI_or, lI_and, lI_shl, lI_shr, nI_iI, lg_lt0, lg_gt0, lg_eq0, i_ne0', l_ne0', iI_lt, iI_le, iI_eq, lI_lt, lI_le, lI_eq, zb_0, zb_fit, zb_fit0, zb_fit1, i_one_zero, i_w_in, z_tb0, z_tb1, z_tb2, z_tb3, z_tb4, z_tb5, z_tb6, z_tb7, z_tb8, z_tbl, z_tu0, z_tu1, z_tu2, z_i_62, z_i_63, z_i_86, z_i_88, z_l_Y, z_ui_62, z_ui_63, z_ui_86, z_ui_88, z_ul_Y, z_sz_Y, z_sw_Y, iI_nat, z_ix_t, z_at, Int.add_zero, Int.sub_zero, Int.zero_add, Int.mul_zero, ne_eq, Bool.false_eq_true, Bool.true_eq_false, reduceCtorEq, eq_self, and_true, true_and, and_false, false_and, and_self, not_true_eq_false, not_false_eq_true, decide_true, decide_false, ↓reduceIte, Int.reduceEq, Int.reduceNe, Int.reduceLT, Int.reduceLE, Int.reduceAdd, Int.reduceSub, Int.reduceMul, Int.reduceNeg, Nat.reduceAdd, Nat.reduceEqDiff, Nat.reduceBEq, ↓z_x_eq, z_g_t, z_bI_s, z_bL_s, z_bR_s, z_bV_s, Int.cast_ofNat_Int, beq_self_eq_true, Bool.and_true, Bool.true_and, Bool.and_self, Bool.or_true, Bool.true_or, Bool.false_and, Bool.and_false, Bool.false_or, Bool.or_false, Bool.not_false, Bool.not_true, if_true, if_false, ite_true, ite_false, z_up_eq, z_up_app, z_ro_eq, c, e, ne, ew, zb_t, p_has, h2, zb_f]
        · obtain ⟨V', s', ih, k⟩ := p_sw2 d T G (air := air) (W := W) hQ hg hb ha hai m (i + 1) V1 s1 (by omega) (by omega) hv1
          refine ⟨V', s', ?_, k⟩
          refine Eq.trans ?_ ih
          rw [e_Ga_secondWins_3]
          simp -implicitDefEqProofs (disch := first | assumption | omega | rfl | (simp only [z_up_eq, z_up_app, ↓reduceIte, Nat.reduceEqDiff]; omega)) only [z_lit0, z_lit1, z_lit2, z_litl, iI_add, iI_sub, iI_mul, iI_neg, iI_and, iI_or, iI_xor, iI_shl, iI_shr, iI_ushr, iI_div, iI_b, iI_c, iI_i2l, lI_l2i, lI_add, lI_sub, lI_mul, lI_neg, lI_div, lI_or, lI_and, lI_shl, lI_shr, nI_iI, lg_lt0, lg_gt0, lg_eq0, i_ne0', l_ne0', iI_lt, iI_le, iI_eq, lI_lt, lI_le, lI_eq, zb_0, zb_fit, zb_fit0, zb_fit1, i_one_zero, i_w_in, z_tb0, z_tb1, z_tb2, z_tb3, z_tb4, z_tb5, z_tb6, z_tb7, z_tb8, z_tbl, z_tu0, z_tu1, z_tu2, z_i_62, z_i_63, z_i_86, z_i_88, z_l_Y, z_ui_62, z_ui_63, z_ui_86, z_ui_88, z_ul_Y, z_sz_Y, z_sw_Y, iI_nat, z_ix_t, z_at, Int.add_zero, Int.sub_zero, Int.zero_add, Int.mul_zero, ne_eq, Bool.false_eq_true, Bool.true_eq_false, reduceCtorEq, eq_self, and_true, true_and, and_false, false_and, and_self, not_true_eq_false, not_false_eq_true, decide_true, decide_false, ↓reduceIte, Int.reduceEq, Int.reduceNe, Int.reduceLT, Int.reduceLE, Int.reduceAdd, Int.reduceSub, Int.reduceMul, Int.reduceNeg, Nat.reduceAdd, Nat.reduceEqDiff, Nat.reduceBEq, ↓z_x_eq, z_g_t, z_bI_s, z_bL_s, z_bR_s, z_bV_s, Int.cast_ofNat_Int, beq_self_eq_true, Bool.and_true, Bool.true_and, Bool.and_self, Bool.or_true, Bool.true_or, Bool.false_and, Bool.and_false, Bool.false_or, Bool.or_false, Bool.not_false, Bool.not_true, if_true, if_false, ite_true, ite_false, z_up_eq, z_up_app, z_ro_eq, c, e, ne, ew, zb_t, p_has, h2]
    · obtain ⟨V', s', ih, k⟩ := p_sw2 d T G (air := air) (W := W) hQ hg hb ha hai m (i + 1) V s (by omega) (by omega) hv
      refine ⟨V', s', ?_, k⟩
      refine Eq.trans ?_ ih
      have e := q1 hh
      rw [e_Ga_secondWins_3]
      simp -implicitDefEqProofs (disch := first | assumption | omega | rfl | (simp only [z_up_eq, z_up_app, ↓reduceIte, Nat.reduceEqDiff]; omega)) only [z_lit0, z_lit1, z_lit2, z_litl, iI_add, iI_sub, iI_mul, iI_neg, iI_and, iI_or, iI_xor, iI_shl, iI_shr, iI_ushr, iI_div, iI_b, iI_c, iI_i2l, lI_l2i, lI_add, lI_sub, lI_mul, lI_neg, lI_div, lI_or, lI_and, lI_shl, lI_shr, nI_iI, lg_lt0, lg_gt0, lg_eq0, i_ne0', l_ne0', iI_lt, iI_le, iI_eq, lI_lt, lI_le, lI_eq, zb_0, zb_fit, zb_fit0, zb_fit1, i_one_zero, i_w_in, z_tb0, z_tb1, z_tb2, z_tb3, z_tb4, z_tb5, z_tb6, z_tb7, z_tb8, z_tbl, z_tu0, z_tu1, z_tu2, z_i_62, z_i_63, z_i_86, z_i_88, z_l_Y, z_ui_62, z_ui_63, z_ui_86, z_ui_88, z_ul_Y, z_sz_Y, z_sw_Y, iI_nat, z_ix_t, z_at, Int.add_zero, Int.sub_zero, Int.zero_add, Int.mul_zero, ne_eq, Bool.false_eq_true, Bool.true_eq_false, reduceCtorEq, eq_self, and_true, true_and, and_false, false_and, and_self, not_true_eq_false, not_false_eq_true, decide_true, decide_false, ↓reduceIte, Int.reduceEq, Int.reduceNe, Int.reduceLT, Int.reduceLE, Int.reduceAdd, Int.reduceSub, Int.reduceMul, Int.reduceNeg, Nat.reduceAdd, Nat.reduceEqDiff, Nat.reduceBEq, ↓z_x_eq, z_g_t, z_bI_s, z_bL_s, z_bR_s, z_bV_s, Int.cast_ofNat_Int, beq_self_eq_true, Bool.and_true, Bool.true_and, Bool.and_self, Bool.or_true, Bool.true_or, Bool.false_and, Bool.and_false, Bool.false_or, Bool.or_false, Bool.not_false, Bool.not_true, if_true, if_false, ite_true, ite_false, z_up_eq, z_up_app, z_ro_eq, c, e]
theorem z_any_more {P : Int → Bool} : ∀ (n m : Nat) (i : Int), (∀ k, i + n ≤ k → k < i + n + m → P k = false) → z_any (n + m) i P = z_any n i P
  | 0, 0, _, _ => rfl
  | 0, m + 1, i, h => by
    rw [Nat.zero_add]
    show (P i || z_any m (i + 1) P) = false
    have := z_any_more 0 m (i + 1) (fun k a b => h k (by omega) (by omega))
    rw [Nat.zero_add] at this
    rw [this, h i (by omega) (by omega)]; rfl
  | n + 1, m, i, h => by
    rw [show n + 1 + m = (n + m) + 1 by omega]
    show (P i || z_any (n + m) (i + 1) P) = (P i || z_any n (i + 1) P)
    rw [z_any_more n m (i + 1) (fun k a b => h k (by omega) (by omega))]
theorem z_any_skip {P Q : Int → Bool} : ∀ (n m : Nat) (i : Int), (∀ k, i ≤ k → k < i + n → P k = false) → (∀ k : Int, 0 ≤ k → k < m → P (i + n + k) = Q k) → z_any (n + m) i P = z_any m 0 Q
  | 0, m, i, h, h2 => by
    rw [Nat.zero_add]
    have sh : ∀ (m : Nat) (i j : Int), (∀ k : Int, 0 ≤ k → k < m → P (i + k) = Q (j + k)) → z_any m i P = z_any m j Q := by
      intro m
      induction m with
      | zero => intro i j h; rfl
      | succ m ih =>
        intro i j h
        show (P i || z_any m (i + 1) P) = (Q j || z_any m (j + 1) Q)
        have h0 := h 0 (by omega) (by omega)
        rw [Int.add_zero, Int.add_zero] at h0
        rw [h0, ih (i + 1) (j + 1) (fun k a b => by have := h (k + 1) (by omega) (by omega); rw [show i + 1 + k = i + (k + 1) by omega, show j + 1 + k = j + (k + 1) by omega]; exact this)]
    exact sh m i 0 (fun k a b => by have := h2 k a b; rw [show i + ((0 : Nat) : Int) + k = i + k by omega] at this; rw [this, Int.zero_add])
  | n + 1, m, i, h, h2 => by
    rw [show n + 1 + m = (n + m) + 1 by omega]
    show (P i || z_any (n + m) (i + 1) P) = _
    rw [h i (by omega) (by omega), Bool.false_or]
    exact z_any_skip n m (i + 1) (fun k a b => h k (by omega) (by omega)) (fun k a b => by rw [show i + 1 + (n : Int) + k = i + ((n + 1 : Nat) : Int) + k by omega]; exact h2 k a b)
theorem z_find_any {P : Int → Bool} {n : Nat} {i : Int} (h : 0 ≤ i) : z_any n i P = decide (z_find n i P ≠ -1) := by
  cases hb : z_any n i P
  · rw [eq_comm, decide_eq_false_iff_not]
    intro q
    apply q
    refine z_find_no n i (fun k a b => ?_)
    cases hk : P k
    · rfl
    · have := (z_any_iff (P := P) n i).mpr ⟨k, a, b, hk⟩
      rw [hb] at this; cases this
  · rw [decide_eq_true (z_any_find n i h hb)]

/-! THE PURE PART, 44: undo, the coupling behind it -/
theorem D_undo {A R : Int → Int} {G : ZG} {n x : Int} (hC : c_nw A G) (h7 : 0 < A 7) (hN : n = (G 25 1 + 29) % 30) (hX : x = 186 + 65 * (A 7 - 1)) (hk : k_ub (k_u0 A x) R x (A 1)) : c_nw R (k_bk G n (n * 24)) := by
  obtain ⟨hM, hI, ⟨h1, h2, h3, h4, h5, h6, h8, h9⟩, ⟨o1, o2, o3, o4⟩, ⟨t1, t2, t3, t4⟩, ⟨p1, p2, p3, p4⟩⟩ := hC
  obtain ⟨m0, m1, m2, m3, m4, m5, m6, m7, m8, m9, m10, m11, ms, mp, mn, mc, mb, me⟩ := hM
  have x0 : 186 ≤ x ∧ x ≤ 2071 := by omega
  obtain ⟨f7, f8, f3, f4, f11, fo, fp, fq, fc⟩ := k_ub_f x0 hk
  obtain ⟨g2, g3, g4, g5, gp, gn, gc⟩ := k_bk_f G n (n * 24)
  have hs := p3 (A 7 - 1) (by omega) (by omega)
  have ge := fun r h => k_bk_ne G n (n * 24) (r := r) h
  dsimp only at *
  simp only [Nat.reduceAdd] at *
  rw [← hX, show 24 * ((G 25 1 - A 7 + (A 7 - 1)) % 30) = n * 24 by omega] at hs
  obtain ⟨s1, s2, s3, s4, s5, s6, s7, s8, s9⟩ := hs
  have e0 : R 0 = A 0 := fo 0 (by omega) (by omega) (by omega) (by omega) (by omega) (by omega)
  have e1 : R 1 = A 1 := fo 1 (by omega) (by omega) (by omega) (by omega) (by omega) (by omega)
  have fc' : ∀ k, 0 ≤ k → k < 2 * A (x + 4) → R (106 + k) = A (106 + k) := fun k a b => (fc k a (by omega)).trans (s9 k a b)
  have fcA : ∀ k, 0 ≤ k → k < A (x + 4) → R (106 + 2 * k) = A (106 + 2 * k) ∧ R (106 + 2 * k + 1) = A (106 + 2 * k + 1) := fun k a b => ⟨fc' (2 * k) (by omega) (by omega), by rw [show 106 + 2 * k + 1 = 106 + (2 * k + 1) by omega]; exact fc' _ (by omega) (by omega)⟩
  have em : ∀ k, 12 ≤ k → k < 32 ∨ (82 ≤ k ∧ k < 106) ∨ 146 ≤ k → R k = A k := fun k a b => fo k (by omega) (by omega) (by omega) (by omega) (by omega) b
  have e2 : R 2 = A 2 := fo 2 (by omega) (by omega) (by omega) (by omega) (by omega) (by omega)
  have e5 : R 5 = A 5 := fo 5 (by omega) (by omega) (by omega) (by omega) (by omega) (by omega)
  have e6 : R 6 = A 6 := fo 6 (by omega) (by omega) (by omega) (by omega) (by omega) (by omega)
  have e9 : R 9 = A 9 := fo 9 (by omega) (by omega) (by omega) (by omega) (by omega) (by omega)
  have e10 : R 10 = A 10 := fo 10 (by omega) (by omega) (by omega) (by omega) (by omega) (by omega)
  refine ⟨?_, ?_, ?_, ?_, ?_, ?_⟩
  · unfold m_ok
    rw [f7, f8, f3, f4, f11, e0, e1, e2, e5, e6, e9, e10]
    refine ⟨m0, m1, m2, by omega, by omega, m5, m6, by omega, by omega, m9, m10, by omega, fun k a b => ?_, fun k a b => ?_, fun k a b => ?_, fun k a b => ?_, fun k a b => ?_, fun k a b => ?_⟩
    · rw [em _ (by omega) (by omega), em _ (by omega) (by omega)]; exact ms k a b
    · have q1 := mp k a b
      have q2 := fq k a b (by omega)
      have q3 := fp k a (by omega)
      rw [q3.1, q3.2.1, q3.2.2, q2.1, q2.2]
      by_cases c : k < A x
      · have q4 := s2 k a c
        rw [if_pos c, if_pos c]
        exact ⟨q1.1, q1.2.1, q1.2.2.1, q4.2.1, q4.2.2⟩
      · rw [if_neg c, if_neg c]
        exact ⟨q1.1, q1.2.1, q1.2.2.1, by omega, by omega⟩
    · rw [em _ (by omega) (by omega), em _ (by omega) (by omega)]; exact mn k a b
    · rw [(fcA k a b).1, (fcA k a b).2]; exact mc k a (by omega)
    · rw [em _ (by omega) (by omega), em _ (by omega) (by omega)]; exact mb k a b
    · rw [em _ (by omega) (by omega), em _ (by omega) (by omega), em _ (by omega) (by omega)]; exact me k a b
  · intro p q a b a' b' f
    rw [e1] at b b'
    rw [(fq p a b (by omega)).1, (fq q a' b' (by omega)).1] at f
    rw [(fq p a b (by omega)).1]
    by_cases c : p < A x
    · by_cases c' : q < A x
      · rw [if_pos c, if_pos c'] at f
        rw [if_pos c]
        exact s4 p q a c a' c' f
      · rw [if_pos c, if_neg c'] at f
        rw [if_pos c]
        exact Or.inr f
    · rw [if_neg c]; exact Or.inr rfl
  · unfold c_hs
    dsimp only
    simp only [Nat.reduceAdd]
    rw [ge 11 (by omega), ge 12 (by omega), ge 13 (by omega), ge 14 (by omega), ge 15 (by omega), ge 16 (by omega), ge 17 (by omega), ge 18 (by omega), e0, e1, e2, e5, e6]
    refine ⟨h1, h2, h3, h4, h5, fun k a b => ?_, fun k a b => ?_, fun k a b => ?_⟩
    · rw [em _ (by omega) (by omega), em _ (by omega) (by omega)]; exact h6 k a b
    · have q3 := fp k a (by omega)
      rw [q3.1, q3.2.1, q3.2.2]; exact h8 k a b
    · rw [em _ (by omega) (by omega), em _ (by omega) (by omega)]; exact h9 k a b
  · unfold c_mo
    dsimp only
    simp only [Nat.reduceAdd]
    rw [ge 23 (by omega), ge 24 (by omega), f8, f3, f4, f11, e1, g2, g3, g4, g5]
    refine ⟨⟨s5.1, s6.1, s7.1, s8.1⟩, fun k a b => ?_, fun k a b => ?_, fun k a b => ?_⟩
    · have q2 := fq k a b (by omega)
      have q3 := gp k a (by omega)
      rw [q2.1, q2.2, q3.1, q3.2]
      by_cases c : k < A x
      · rw [if_pos c, if_pos c]; exact (s2 k a c).1
      · rw [if_neg c, if_neg c]; exact s3 k (by omega) (by omega)
    · have q3 := gp k (by omega) (by omega)
      rw [q3.1, q3.2]; exact s3 k (by omega) b
    · rw [(fcA k a b).1, (fcA k a b).2]; exact o4 k a (by omega)
  · unfold c_to
    dsimp only
    simp only [Nat.reduceAdd]
    rw [ge 27 (by omega), ge 28 (by omega), ge 29 (by omega), ge 30 (by omega), ge 31 (by omega), ge 32 (by omega), e9, e10]
    refine ⟨t1, fun k a b => ?_, t3, fun k a b => ?_⟩
    · rw [em _ (by omega) (by omega), em _ (by omega) (by omega)]; exact t2 k a b
    · rw [em _ (by omega) (by omega), em _ (by omega) (by omega), em _ (by omega) (by omega)]; exact t4 k a b
  · unfold c_sp
    dsimp only
    simp only [Nat.reduceAdd]
    rw [ge 26 (by omega), gn, gc, f7]
    refine ⟨by omega, by omega, fun j a b => ?_, fun i j a b c => ?_⟩
    · rw [show 24 * ((n - (A 7 - 1) + j) % 30) = 24 * ((G 25 1 - A 7 + j) % 30) by omega]
      have q := p3 j a (by omega)
      have qm := p4 j (A 7 - 1) a (by omega) (by omega)
      rw [← hX] at qm
      have hj : 186 ≤ 186 + 65 * j := by omega
      generalize 186 + 65 * j = xj at *
      obtain ⟨v1, v2, v3, v4, v5, v6, v7, v8, v9⟩ := q
      unfold c_st
      rw [em xj (by omega) (by omega), em (xj + 1) (by omega) (by omega), em (xj + 2) (by omega) (by omega), em (xj + 3) (by omega) (by omega), em (xj + 4) (by omega) (by omega), e0, e1, f11]
      refine ⟨v1, fun p a b => ?_, v3, fun p q a b a' b' f => ?_, v5, v6, v7, ⟨v8.1, v8.2.1, qm⟩, fun k a b => ?_⟩
      · rw [em _ (by omega) (by omega), em _ (by omega) (by omega)]; exact v2 p a b
      · rw [em _ (by omega) (by omega), em _ (by omega) (by omega)] at f
        rw [em _ (by omega) (by omega)]
        exact v4 p q a b a' b' f
      · rw [em _ (by omega) (by omega), fc' k a (by omega)]; exact v9 k a b
    · rw [em _ (by omega) (by omega), em _ (by omega) (by omega)]; exact p4 i j a b (by omega)
theorem t_undo (d : Nat) {S0 : ZG} {c : Int} {T : ZT} {G : ZG} (h : z_I S0 c T G) (hc : c < 600) : z_pwr S0 c T G (fun σ => z_call (d + 4) 187 [vr 10] σ) (fun σ => z_call (d + 2) 188 [vr 80] σ) := by
  have hC := h.1
  have m1 := hC.1.2.1
  have m7 := hC.1.2.2.2.2.2.2.2.1
  have e7 := dw_t hC
  have b7 := dw_b7 hC
  refine pr_dd (k := False) h hc ?_
  by_cases c0 : G 81 7 = 0
  · refine dd_same (iI (-1)) (fun x => x.elim) (fun s => ?_) (fun A Gm s hA e q e2 => ?_)
    · rw [e_B_undo, e_St_takeBack]
      simp -implicitDefEqProofs (disch := first | assumption | omega | rfl | (simp only [z_up_eq, z_up_app, ↓reduceIte, Nat.reduceEqDiff]; omega)) only [z_lit0, z_lit1, z_lit2, z_litl, iI_add, iI_sub, iI_mul, iI_neg, iI_and, iI_or, iI_xor, iI_shl, iI_shr, iI_ushr, iI_div, iI_b, iI_c, iI_i2l, lI_l2i, lI_add, lI_sub, lI_mul, lI_neg, lI_div, lI_or, lI_and, lI_shl, lI_shr, nI_iI, lg_lt0, lg_gt0, lg_eq0, i_ne0', l_ne0', iI_lt, iI_le, iI_eq, lI_lt, lI_le, lI_eq, zb_0, zb_fit, zb_fit0, zb_fit1, i_one_zero, i_w_in, z_tb0, z_tb1, z_tb2, z_tb3, z_tb4, z_tb5, z_tb6, z_tb7, z_tb8, z_tbl, z_tu0, z_tu1, z_tu2, z_i_62, z_i_63, z_i_86, z_i_88, z_l_Y, z_ui_62, z_ui_63, z_ui_86, z_ui_88, z_ul_Y, z_sz_Y, z_sw_Y, iI_nat, z_ix_t, z_at, Int.add_zero, Int.sub_zero, Int.zero_add, Int.mul_zero, ne_eq, Bool.false_eq_true, Bool.true_eq_false, reduceCtorEq, eq_self, and_true, true_and, and_false, false_and, and_self, not_true_eq_false, not_false_eq_true, decide_true, decide_false, ↓reduceIte, Int.reduceEq, Int.reduceNe, Int.reduceLT, Int.reduceLE, Int.reduceAdd, Int.reduceSub, Int.reduceMul, Int.reduceNeg, Nat.reduceAdd, Nat.reduceEqDiff, Nat.reduceBEq, ↓z_x_eq, z_g_t, z_bI_s, z_bL_s, z_bR_s, z_bV_s, Int.cast_ofNat_Int, beq_self_eq_true, Bool.and_true, Bool.true_and, Bool.and_self, Bool.or_true, Bool.true_or, Bool.false_and, Bool.and_false, Bool.false_or, Bool.or_false, Bool.not_false, Bool.not_true, if_true, if_false, ite_true, ite_false, z_up_eq, z_up_app, z_ro_eq, e7, c0]
      exact ok_q
    · have eA : A 7 = 0 := by rw [← dw_t hA, e7]; exact c0
      rw [e_M_undo]
      simp -implicitDefEqProofs (disch := first | assumption | omega | rfl | (simp only [z_up_eq, z_up_app, ↓reduceIte, Nat.reduceEqDiff]; omega)) only [z_lit0, z_lit1, z_lit2, z_litl, iI_add, iI_sub, iI_mul, iI_neg, iI_and, iI_or, iI_xor, iI_shl, iI_shr, iI_ushr, iI_div, iI_b, iI_c, iI_i2l, lI_l2i, lI_add, lI_sub, lI_mul, lI_neg, lI_div, lI_or, lI_and, lI_shl, lI_shr, nI_iI, lg_lt0, lg_gt0, lg_eq0, i_ne0', l_ne0', iI_lt, iI_le, iI_eq, lI_lt, lI_le, lI_eq, zb_0, zb_fit, zb_fit0, zb_fit1, i_one_zero, i_w_in, z_tb0, z_tb1, z_tb2, z_tb3, z_tb4, z_tb5, z_tb6, z_tb7, z_tb8, z_tbl, z_tu0, z_tu1, z_tu2, z_i_62, z_i_63, z_i_86, z_i_88, z_l_Y, z_ui_62, z_ui_63, z_ui_86, z_ui_88, z_ul_Y, z_sz_Y, z_sw_Y, iI_nat, z_ix_t, z_at, Int.add_zero, Int.sub_zero, Int.zero_add, Int.mul_zero, ne_eq, Bool.false_eq_true, Bool.true_eq_false, reduceCtorEq, eq_self, and_true, true_and, and_false, false_and, and_self, not_true_eq_false, not_false_eq_true, decide_true, decide_false, ↓reduceIte, Int.reduceEq, Int.reduceNe, Int.reduceLT, Int.reduceLE, Int.reduceAdd, Int.reduceSub, Int.reduceMul, Int.reduceNeg, Nat.reduceAdd, Nat.reduceEqDiff, Nat.reduceBEq, ↓z_x_eq, z_g_t, z_bI_s, z_bL_s, z_bR_s, z_bV_s, Int.cast_ofNat_Int, beq_self_eq_true, Bool.and_true, Bool.true_and, Bool.and_self, Bool.or_true, Bool.true_or, Bool.false_and, Bool.and_false, Bool.false_or, Bool.or_false, Bool.not_false, Bool.not_true, if_true, if_false, ite_true, ite_false, z_up_eq, z_up_app, z_ro_eq, e, eA]
      exact ok_q
  · have hs := hC.2.2.2.2.2.2.2.1 (G 81 7 - 1) (by omega) (by omega)
    simp only [Nat.reduceAdd] at hs
    obtain ⟨n, hN⟩ : ∃ n, n = (G 25 1 + 29) % 30 := ⟨_, rfl⟩
    rw [show 24 * ((G 25 1 - G 81 7 + (G 81 7 - 1)) % 30) = n * 24 by omega] at hs
    obtain ⟨s1, s2, s3, s4, s5, s6, s7, s8, s9⟩ := hs
    have hr : ∀ k, 0 ≤ k → k < 4 → i_in (G 26 (n * 24 + 20 + k)) := by
      intro k a b
      have m11 := hC.1.2.2.2.2.2.2.2.2.2.2.2.1
      rcases (show k = 0 ∨ k = 1 ∨ k = 2 ∨ k = 3 by omega) with f | f | f | f
      · rw [f, show n * 24 + 20 + 0 = n * 24 + 20 by omega, s5.1]; exact ⟨by omega, by omega⟩
      · rw [f, show n * 24 + 20 + 1 = n * 24 + 21 by omega, s6.1]; exact ⟨by omega, by omega⟩
      · rw [f, show n * 24 + 20 + 2 = n * 24 + 22 by omega, s7.1]; exact ⟨by omega, by omega⟩
      · rw [f, show n * 24 + 20 + 3 = n * 24 + 23 by omega, s8.1]; exact ⟨by omega, by omega⟩
    have ct := fun s => p_ctake d T G s (n := n) b7.1 (by omega) hN hr
    have g2 := (k_bk_f G n (n * 24)).2.2.2.2.2.2
    refine ⟨iI (G 81 7 - 1), k_bk G n (n * 24), fun x => x.elim, fun s => ?_, fun r a => k_bk_ne G n _ (by omega), fun A Gm s hA e q e2 => ?_⟩
    · dsimp only
      rw [e_B_undo]
      simp -implicitDefEqProofs (disch := first | assumption | omega | rfl | (simp only [z_up_eq, z_up_app, ↓reduceIte, Nat.reduceEqDiff]; omega)) only [z_lit0, z_lit1, z_lit2, z_litl, iI_add, iI_sub, iI_mul, iI_neg, iI_and, iI_or, iI_xor, iI_shl, iI_shr, iI_ushr, iI_div, iI_b, iI_c, iI_i2l, lI_l2i, lI_add, lI_sub, lI_mul, lI_neg, lI_div, lI_or, lI_and, lI_shl, lI_shr, nI_iI, lg_lt0, lg_gt0, lg_eq0, i_ne0', l_ne0', iI_lt, iI_le, iI_eq, lI_lt, lI_le, lI_eq, zb_0, zb_fit, zb_fit0, zb_fit1, i_one_zero, i_w_in, z_tb0, z_tb1, z_tb2, z_tb3, z_tb4, z_tb5, z_tb6, z_tb7, z_tb8, z_tbl, z_tu0, z_tu1, z_tu2, z_i_62, z_i_63, z_i_86, z_i_88, z_l_Y, z_ui_62, z_ui_63, z_ui_86, z_ui_88, z_ul_Y, z_sz_Y, z_sw_Y, iI_nat, z_ix_t, z_at, Int.add_zero, Int.sub_zero, Int.zero_add, Int.mul_zero, ne_eq, Bool.false_eq_true, Bool.true_eq_false, reduceCtorEq, eq_self, and_true, true_and, and_false, false_and, and_self, not_true_eq_false, not_false_eq_true, decide_true, decide_false, ↓reduceIte, Int.reduceEq, Int.reduceNe, Int.reduceLT, Int.reduceLE, Int.reduceAdd, Int.reduceSub, Int.reduceMul, Int.reduceNeg, Nat.reduceAdd, Nat.reduceEqDiff, Nat.reduceBEq, ↓z_x_eq, z_g_t, z_bI_s, z_bL_s, z_bR_s, z_bV_s, Int.cast_ofNat_Int, beq_self_eq_true, Bool.and_true, Bool.true_and, Bool.and_self, Bool.or_true, Bool.true_or, Bool.false_and, Bool.and_false, Bool.false_or, Bool.or_false, Bool.not_false, Bool.not_true, if_true, if_false, ite_true, ite_false, z_up_eq, z_up_app, z_ro_eq, ct, g2, e7]
      exact ok_q
    · have eA : A 7 = G 81 7 := by rw [← dw_t hA, e7]
      have hsA := hA.2.2.2.2.2.2.2.1 (A 7 - 1) (by omega) (by omega)
      have mA := hA.1.2.1
      have v1 := hsA.1
      obtain ⟨R, em, hk⟩ := p_mundo d T Gm s (x := 186 + 65 * (A 7 - 1)) (by rw [e]; omega) (by rw [e]; exact mA) (by rw [e]) (by rw [e]; exact ⟨by omega, by omega⟩)
      rw [e] at em hk
      have hD := D_undo hA (by omega) hN rfl hk
      dsimp only
      rw [em, eA]
      refine ok_ret ⟨rfl, R, s, rfl, hD, ?_⟩
      exact (k_ub_f (by omega) hk).2.2.2.2.2.1 5 (by omega) (by omega) (by omega) (by omega) (by omega) (by omega)

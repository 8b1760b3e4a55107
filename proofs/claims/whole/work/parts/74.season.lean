/-! THE PURE PART, 54: season -/
theorem D_how {A : Int → Int} {G : ZG} (hC : c_nw A G) {p v : Int} (hp : 0 ≤ p ∧ p < A 1) (hv : 0 ≤ v ∧ v ≤ 2) : c_nw (z_ro A (32 + 5 * p + 4) v) (z_up G 22 (z_ro (G 22) p v)) := by
  have m1 := hC.1.2.1
  refine D_mo hC (fun r x1 x2 x3 => z_up_ne _ _ x3) (ag_p (ag_id A) ⟨hp.1, by omega⟩ (by omega)) (fun k x1 x2 x3 => z_ro_ne _ _ (by omega)) (ag_how hC.1 hp hv) ?_ (fun r x1 x2 => z_ro_ne _ _ (by omega)) ?_ (fun r x1 x2 => ?_) (fun r x1 x2 => ?_)
  · intro x y x1 x2 x3 x4 x5
    rw [z_ro_ne _ _ (by omega)] at x2 x4
    rw [z_ro_ne _ _ (by omega), z_ro_ne _ _ (by omega)] at x5
    rw [z_ro_ne _ _ (by omega)]
    exact hC.2.1 x y x1 x2 x3 x4 x5
  · rw [z_up_ne _ _ (show 20 ≠ 22 by omega), z_ro_ne _ _ (by omega), z_ro_ne _ _ (by omega)]
    exact dw_m hC
  · rw [z_up_ne _ _ (show 21 ≠ 22 by omega), z_up_eq, z_ro_ne _ _ (show 32 + 5 * r + 3 ≠ 32 + 5 * p + 4 by omega)]
    refine ⟨(dw_o hC r x1 x2).1, ?_⟩
    by_cases f : r = p
    · rw [f, z_ro_eq, z_ro_eq]
    · rw [z_ro_ne _ _ f, z_ro_ne _ _ (by omega)]; exact (dw_o hC r x1 x2).2
  · rw [z_up_ne _ _ (show 21 ≠ 22 by omega), z_up_eq, z_ro_ne _ _ (by omega)]
    exact dw_u hC r x1 x2
theorem D_ush {A : Int → Int} {G : ZG} (hC : c_nw A G) {v : Int} (hv : 0 ≤ v ∧ v ≤ 15) : c_nw (z_ro A 8 v) (z_up G 20 (z_ro (G 20) 2 v)) := by
  have m1 := hC.1.2.1
  have dm := dw_m hC
  refine D_mo hC (fun r x1 x2 x3 => z_up_ne _ _ x1) (ag_u (ag_id A)) (fun k x1 x2 x3 => z_ro_ne _ _ x2) (ag_ush hC.1 hv) ?_ (fun r x1 x2 => z_ro_ne _ _ (by omega)) ?_ (fun r x1 x2 => ?_) (fun r x1 x2 => ?_)
  · intro x y x1 x2 x3 x4 x5
    rw [z_ro_ne _ _ (by omega)] at x2 x4
    rw [z_ro_ne _ _ (by omega), z_ro_ne _ _ (by omega)] at x5
    rw [z_ro_ne _ _ (by omega)]
    exact hC.2.1 x y x1 x2 x3 x4 x5
  · rw [z_up_eq, z_ro_eq, z_ro_eq, z_ro_ne _ _ (show (3 : Int) ≠ 2 by omega), z_ro_ne _ _ (show (4 : Int) ≠ 2 by omega), z_ro_ne _ _ (show (5 : Int) ≠ 2 by omega), z_ro_ne _ _ (show (3 : Int) ≠ 8 by omega)]
    exact ⟨rfl, dm.2⟩
  · rw [z_up_ne _ _ (show 21 ≠ 20 by omega), z_up_ne _ _ (show 22 ≠ 20 by omega), z_ro_ne _ _ (by omega), z_ro_ne _ _ (by omega)]
    exact dw_o hC r x1 x2
  · rw [z_up_ne _ _ (show 21 ≠ 20 by omega), z_up_ne _ _ (show 22 ≠ 20 by omega)]
    exact dw_u hC r x1 x2
theorem D_bt {A : Int → Int} {G : ZG} (hC : c_nw A G) {v : Int} (hv : 0 ≤ v ∧ v ≤ 9999) : c_nw (z_ro A 3 v) (z_up G 20 (z_ro (G 20) 3 v)) := by
  have m1 := hC.1.2.1
  have dm := dw_m hC
  refine D_mo2 hC (fun r x1 x2 x3 => z_up_ne _ _ x1) (fun q x1 x2 => ⟨z_ro_ne _ _ (by omega), z_ro_ne _ _ (by omega)⟩) (fun k x1 x2 x3 => z_ro_ne _ _ x1) (ag_bt hC.1 hv) ?_ (fun r x1 x2 => z_ro_ne _ _ (by omega)) ?_ (fun r x1 x2 => ?_) (fun r x1 x2 => ?_)
  · intro x y x1 x2 x3 x4 x5
    rw [z_ro_ne _ _ (by omega)] at x2 x4
    rw [z_ro_ne _ _ (by omega), z_ro_ne _ _ (by omega)] at x5
    rw [z_ro_ne _ _ (by omega)]
    exact hC.2.1 x y x1 x2 x3 x4 x5
  · rw [z_up_eq, z_ro_eq, z_ro_eq, z_ro_ne _ _ (show (2 : Int) ≠ 3 by omega), z_ro_ne _ _ (show (4 : Int) ≠ 3 by omega), z_ro_ne _ _ (show (5 : Int) ≠ 3 by omega), z_ro_ne _ _ (show (8 : Int) ≠ 3 by omega)]
    exact ⟨dm.1, rfl, dm.2.2⟩
  · rw [z_up_ne _ _ (show 21 ≠ 20 by omega), z_up_ne _ _ (show 22 ≠ 20 by omega), z_ro_ne _ _ (by omega), z_ro_ne _ _ (by omega)]
    exact dw_o hC r x1 x2
  · rw [z_up_ne _ _ (show 21 ≠ 20 by omega), z_up_ne _ _ (show 22 ≠ 20 by omega)]
    exact dw_u hC r x1 x2
theorem D_x {A : Int → Int} {G : ZG} (hC : c_nw A G) {v : Int} (hv : 0 ≤ v ∧ v ≤ 30270) : c_nw (z_ro A 4 v) (z_up G 20 (z_ro (G 20) 4 v)) := by
  have dm := dw_m hC
  have m11 := hC.1.2.2.2.2.2.2.2.2.2.2.2.1
  have mc := hC.1.2.2.2.2.2.2.2.2.2.2.2.2.2.2.2.1
  have dc := dw_c hC
  have e : ∀ k, k ≠ 4 → z_ro A 4 v k = A k := fun k a => z_ro_ne _ _ a
  refine D_cx hC (fun r a _ _ => z_up_ne _ _ a) (fun k a _ _ => e k a) (by rw [z_ro_eq]; exact hv) (by rw [e 11 (by omega)]; omega) (fun k a b => e _ (by omega)) (fun k a b => ?_) ⟨?_, ?_, ?_, ?_⟩ (fun k a b => ?_)
  · rw [e 11 (by omega)] at b
    rw [e _ (by omega), e _ (by omega)]; exact mc k a b
  · rw [z_up_eq, z_ro_ne _ _ (by omega)]
  · rw [z_up_eq, z_ro_ne _ _ (by omega)]
  · rw [z_up_eq, z_ro_eq, z_ro_eq]
  · rw [z_up_eq, z_ro_ne _ _ (by omega), e 11 (by omega)]; exact dm.2.2.2
  · rw [e 11 (by omega)] at b
    rw [z_up_ne _ _ (by omega), z_up_ne _ _ (by omega), e _ (by omega), e _ (by omega)]; exact dc k a b
/-- a deed of a season: no answer, nothing is told -/
def z_dh (T : ZT) (G : ZG) (f g : ZM → ZR) : Prop := ∃ G' : ZG, G' 11 = G 11 ∧ (∀ s, z_ok (f (z_Y T G s)) (z_q T G' (vi (iI 0)))) ∧ (∀ r, ¬ (11 ≤ r ∧ r ≤ 32) → G' r = G r) ∧ ∀ A Gm s, c_nw A G → Gm 81 = A → m_q Gm → Gm 83 = G 83 → z_ok (g (z_Y T Gm s)) (fun y τ => y = vi (iI 0) ∧ ∃ A' s', τ = z_Y T (z_up Gm 81 A') s' ∧ c_nw A' G' ∧ A' 5 = A 5)
theorem d_happen (d : Nat) {T : ZT} {G : ZG} (hE : ∃ A, c_nw A G ∧ t_okA T A G) {x : Int} (hx : 0 ≤ x ∧ x ≤ 30270) (hP : G 11 3 ≠ 0) : z_dh T G (fun σ => z_call (d + 6) 180 [vr 65, vi (iI x), vi (iI (G 11 3))] σ) (fun σ => z_call (d + 8) 183 [vr 80, vi (iI x)] σ) := by
  obtain ⟨A0, hC0, hT0⟩ := hE
  have q1 := (dw_h hC0).2.1
  have q00 := (dw_h hC0).1
  have m10 := hC0.1.2.1
  have m00 := hC0.1.1
  have m30 := hC0.1.2.2.2.1
  have m80 := hC0.1.2.2.2.2.2.2.2.2.1
  have dm0 := dw_m hC0
  have hPp : (0 < G 11 3) = True := eq_true (by omega)
  have rP : x - i_div x (G 11 3) * G 11 3 = x % G 11 3 := i_remn (by omega) (by omega)
  have hp0 := Int.emod_nonneg x hP
  have hp1 := Int.emod_lt_of_pos x (show 0 < G 11 3 by omega)
  have r6 : x - i_div x 6 * 6 = x % 6 := i_remn (by omega) (by omega)
  have r3 : x - i_div x 3 * 3 = x % 3 := i_remn (by omega) (by omega)
  have r4 : x - i_div x 4 * 4 = x % 4 := i_remn (by omega) (by omega)
  generalize hpe : x % G 11 3 = p at *
  -- the model's way to the branches
  have mway : ∀ (A : Int → Int) (Gm : ZG) s, c_nw A G → Gm 81 = A → z_call (d + 8) 183 [vr 80, vi (iI x)] (z_Y T Gm s) = z_w d_M_happens (z_call (d + 7)) 30 [some (vr 80), some (vi (iI x)), some (vi (iI p)), none] [vi (iI (if A 0 = 0 then -1 else x % A 0))] (z_Y T Gm s) := by
    intro A Gm s hC e
    have q := (dw_h hC).2.1
    have m0 := hC.1.1
    have rP' : x - i_div x (A 1) * A 1 = p := by rw [← q]; exact rP
    rw [e_M_happens]
    by_cases c : A 0 = 0
    · rw [show (if A 0 = 0 then (-1 : Int) else x % A 0) = -1 from if_pos c]
      simp -implicitDefEqProofs (disch := first | assumption | omega | rfl | (simp only [z_up_eq, z_up_app, ↓reduceIte, Nat.reduceEqDiff]; omega)) only [z_lit0, z_lit1, z_lit2, z_litl, iI_add, iI_sub, iI_mul, iI_neg, iI_and, iI_or, iI_xor, iI_shl, iI_shr, iI_ushr, iI_div, iI_b, iI_c, iI_i2l, lI_l2i, lI_add, lI_sub, lI_mul, lI_neg, lI_div, lI_or, lI_and, lI_shl, lI_shr, nI_iI, lg_lt0, lg_gt0, lg_eq0, i_ne0', l_ne0', iI_lt, iI_le, iI_eq, lI_lt, lI_le, lI_eq, zb_0, zb_fit, zb_fit0, zb_fit1, i_one_zero, i_w_in, z_tb0, z_tb1, z_tb2, z_tb3, z_tb4, z_tb5, z_tb6, z_tb7, z_tb8, z_tbl, z_tu0, z_tu1, z_tu2, z_i_62, z_i_63, z_i_86, z_i_88, z_l_Y, z_ui_62, z_ui_63, z_ui_86, z_ui_88, z_ul_Y, z_sz_Y, z_sw_Y, iI_nat, z_ix_t, z_at, Int.add_zero, Int.sub_zero, Int.zero_add, Int.mul_zero, ne_eq, Bool.false_eq_true, Bool.true_eq_false, reduceCtorEq, eq_self, and_true, true_and, and_false, false_and, and_self, not_true_eq_false, not_false_eq_true, decide_true, decide_false, ↓reduceIte, Int.reduceEq, Int.reduceNe, Int.reduceLT, Int.reduceLE, Int.reduceAdd, Int.reduceSub, Int.reduceMul, Int.reduceNeg, Nat.reduceAdd, Nat.reduceEqDiff, Nat.reduceBEq, ↓z_x_eq, z_g_t, z_bI_s, z_bL_s, z_bR_s, z_bV_s, Int.cast_ofNat_Int, beq_self_eq_true, Bool.and_true, Bool.true_and, Bool.and_self, Bool.or_true, Bool.true_or, Bool.false_and, Bool.and_false, Bool.false_or, Bool.or_false, Bool.not_false, Bool.not_true, if_true, if_false, ite_true, ite_false, z_up_eq, z_up_app, z_ro_eq, e, rP', c]
    · rw [show (if A 0 = 0 then (-1 : Int) else x % A 0) = x % A 0 from if_neg c]
      have rS : x - i_div x (A 0) * A 0 = x % A 0 := i_remn (by omega) (by omega)
      simp -implicitDefEqProofs (disch := first | assumption | omega | rfl | (simp only [z_up_eq, z_up_app, ↓reduceIte, Nat.reduceEqDiff]; omega)) only [z_lit0, z_lit1, z_lit2, z_litl, iI_add, iI_sub, iI_mul, iI_neg, iI_and, iI_or, iI_xor, iI_shl, iI_shr, iI_ushr, iI_div, iI_b, iI_c, iI_i2l, lI_l2i, lI_add, lI_sub, lI_mul, lI_neg, lI_div, lI_or, lI_and, lI_shl, lI_shr, nI_iI, lg_lt0, lg_gt0, lg_eq0, i_ne0', l_ne0', iI_lt, iI_le, iI_eq, lI_lt, lI_le, lI_eq, zb_0, zb_fit, zb_fit0, zb_fit1, i_one_zero, i_w_in, z_tb0, z_tb1, z_tb2, z_tb3, z_tb4, z_tb5, z_tb6, z_tb7, z_tb8, z_tbl, z_tu0, z_tu1, z_tu2, z_i_62, z_i_63, z_i_86, z_i_88, z_l_Y, z_ui_62, z_ui_63, z_ui_86, z_ui_88, z_ul_Y, z_sz_Y, z_sw_Y, iI_nat, z_ix_t, z_at, Int.add_zero, Int.sub_zero, Int.zero_add, Int.mul_zero, ne_eq, Bool.false_eq_true, Bool.true_eq_false, reduceCtorEq, eq_self, and_true, true_and, and_false, false_and, and_self, not_true_eq_false, not_false_eq_true, decide_true, decide_false, ↓reduceIte, Int.reduceEq, Int.reduceNe, Int.reduceLT, Int.reduceLE, Int.reduceAdd, Int.reduceSub, Int.reduceMul, Int.reduceNeg, Nat.reduceAdd, Nat.reduceEqDiff, Nat.reduceBEq, ↓z_x_eq, z_g_t, z_bI_s, z_bL_s, z_bR_s, z_bV_s, Int.cast_ofNat_Int, beq_self_eq_true, Bool.and_true, Bool.true_and, Bool.and_self, Bool.or_true, Bool.true_or, Bool.false_and, Bool.and_false, Bool.false_or, Bool.or_false, Bool.not_false, Bool.not_true, if_true, if_false, ite_true, ite_false, z_up_eq, z_up_app, z_ro_eq, e, rP', c, rS]
  have cway : ∀ s, z_call (d + 6) 180 [vr 65, vi (iI x), vi (iI (G 11 3))] (z_Y T G s) = z_w d_De_happen (z_call (d + 5)) 11 [some (vr 65), some (vi (iI x)), none, none] [vi (iI p)] (z_Y T G s) := by
    intro s
    rw [e_De_happen]
    simp -implicitDefEqProofs (disch := first | assumption | omega | rfl | (simp only [z_up_eq, z_up_app, ↓reduceIte, Nat.reduceEqDiff]; omega)) only [z_lit0, z_lit1, z_lit2, z_litl, iI_add, iI_sub, iI_mul, iI_neg, iI_and, iI_or, iI_xor, iI_shl, iI_shr, iI_ushr, iI_div, iI_b, iI_c, iI_i2l, lI_l2i, lI_add, lI_sub, lI_mul, lI_neg, lI_div, lI_or, lI_and, lI_shl, lI_shr, nI_iI, lg_lt0, lg_gt0, lg_eq0, i_ne0', l_ne0', iI_lt, iI_le, iI_eq, lI_lt, lI_le, lI_eq, zb_0, zb_fit, zb_fit0, zb_fit1, i_one_zero, i_w_in, z_tb0, z_tb1, z_tb2, z_tb3, z_tb4, z_tb5, z_tb6, z_tb7, z_tb8, z_tbl, z_tu0, z_tu1, z_tu2, z_i_62, z_i_63, z_i_86, z_i_88, z_l_Y, z_ui_62, z_ui_63, z_ui_86, z_ui_88, z_ul_Y, z_sz_Y, z_sw_Y, iI_nat, z_ix_t, z_at, Int.add_zero, Int.sub_zero, Int.zero_add, Int.mul_zero, ne_eq, Bool.false_eq_true, Bool.true_eq_false, reduceCtorEq, eq_self, and_true, true_and, and_false, false_and, and_self, not_true_eq_false, not_false_eq_true, decide_true, decide_false, ↓reduceIte, Int.reduceEq, Int.reduceNe, Int.reduceLT, Int.reduceLE, Int.reduceAdd, Int.reduceSub, Int.reduceMul, Int.reduceNeg, Nat.reduceAdd, Nat.reduceEqDiff, Nat.reduceBEq, ↓z_x_eq, z_g_t, z_bI_s, z_bL_s, z_bR_s, z_bV_s, Int.cast_ofNat_Int, beq_self_eq_true, Bool.and_true, Bool.true_and, Bool.and_self, Bool.or_true, Bool.true_or, Bool.false_and, Bool.and_false, Bool.false_or, Bool.or_false, Bool.not_false, Bool.not_true, if_true, if_false, ite_true, ite_false, z_up_eq, z_up_app, z_ro_eq, hPp, rP]
  have same : (∀ s, z_call (d + 6) 180 [vr 65, vi (iI x), vi (iI (G 11 3))] (z_Y T G s) = some (vi (iI 0), z_Y T G s)) → (∀ A Gm s, c_nw A G → Gm 81 = A → m_q Gm → Gm 83 = G 83 → z_call (d + 8) 183 [vr 80, vi (iI x)] (z_Y T Gm s) = some (vi (iI 0), z_Y T Gm s)) → z_dh T G (fun σ => z_call (d + 6) 180 [vr 65, vi (iI x), vi (iI (G 11 3))] σ) (fun σ => z_call (d + 8) 183 [vr 80, vi (iI x)] σ) := by
    intro h1 h2
    refine ⟨G, rfl, fun s => ?_, fun _ _ => rfl, fun A Gm s hC e q e2 => ?_⟩
    · dsimp only; rw [h1 s]; exact ok_q
    · dsimp only; rw [h2 A Gm s hC e q e2]; exact ok_ret ⟨rfl, A, s, by rw [z_up_self e.symm], hC, rfl⟩
  rcases (show x % 6 = 0 ∨ x % 6 = 1 ∨ x % 6 = 2 ∨ x % 6 = 3 ∨ (x % 6 ≠ 0 ∧ x % 6 ≠ 1 ∧ x % 6 ≠ 2 ∧ x % 6 ≠ 3) by omega) with h6 | h6 | h6 | h6 | h6
  · by_cases c0 : G 11 0 = 0
    · refine same (fun s => ?_) (fun A Gm s hC e q e2 => ?_)
      · rw [cway s, e_De_happen_11]
        simp -implicitDefEqProofs (disch := first | assumption | omega | rfl | (simp only [z_up_eq, z_up_app, ↓reduceIte, Nat.reduceEqDiff]; omega)) only [z_lit0, z_lit1, z_lit2, z_litl, iI_add, iI_sub, iI_mul, iI_neg, iI_and, iI_or, iI_xor, iI_shl, iI_shr, iI_ushr, iI_div, iI_b, iI_c, iI_i2l, lI_l2i, lI_add, lI_sub, lI_mul, lI_neg, lI_div, lI_or, lI_and, lI_shl, lI_shr, nI_iI, lg_lt0, lg_gt0, lg_eq0, i_ne0', l_ne0', iI_lt, iI_le, iI_eq, lI_lt, lI_le, lI_eq, zb_0, zb_fit, zb_fit0, zb_fit1, i_one_zero, i_w_in, z_tb0, z_tb1, z_tb2, z_tb3, z_tb4, z_tb5, z_tb6, z_tb7, z_tb8, z_tbl, z_tu0, z_tu1, z_tu2, z_i_62, z_i_63, z_i_86, z_i_88, z_l_Y, z_ui_62, z_ui_63, z_ui_86, z_ui_88, z_ul_Y, z_sz_Y, z_sw_Y, iI_nat, z_ix_t, z_at, Int.add_zero, Int.sub_zero, Int.zero_add, Int.mul_zero, ne_eq, Bool.false_eq_true, Bool.true_eq_false, reduceCtorEq, eq_self, and_true, true_and, and_false, false_and, and_self, not_true_eq_false, not_false_eq_true, decide_true, decide_false, ↓reduceIte, Int.reduceEq, Int.reduceNe, Int.reduceLT, Int.reduceLE, Int.reduceAdd, Int.reduceSub, Int.reduceMul, Int.reduceNeg, Nat.reduceAdd, Nat.reduceEqDiff, Nat.reduceBEq, ↓z_x_eq, z_g_t, z_bI_s, z_bL_s, z_bR_s, z_bV_s, Int.cast_ofNat_Int, beq_self_eq_true, Bool.and_true, Bool.true_and, Bool.and_self, Bool.or_true, Bool.true_or, Bool.false_and, Bool.and_false, Bool.false_or, Bool.or_false, Bool.not_false, Bool.not_true, if_true, if_false, ite_true, ite_false, z_up_eq, z_up_app, z_ro_eq, r6, h6, e_De_sitByChance, c0]
      · have q0 := (dw_h hC).1
        have c0' : A 0 = 0 := by rw [← q0]; exact c0
        rw [mway A Gm s hC e, if_pos c0', e_M_happens_30]
        simp -implicitDefEqProofs (disch := first | assumption | omega | rfl | (simp only [z_up_eq, z_up_app, ↓reduceIte, Nat.reduceEqDiff]; omega)) only [z_lit0, z_lit1, z_lit2, z_litl, iI_add, iI_sub, iI_mul, iI_neg, iI_and, iI_or, iI_xor, iI_shl, iI_shr, iI_ushr, iI_div, iI_b, iI_c, iI_i2l, lI_l2i, lI_add, lI_sub, lI_mul, lI_neg, lI_div, lI_or, lI_and, lI_shl, lI_shr, nI_iI, lg_lt0, lg_gt0, lg_eq0, i_ne0', l_ne0', iI_lt, iI_le, iI_eq, lI_lt, lI_le, lI_eq, zb_0, zb_fit, zb_fit0, zb_fit1, i_one_zero, i_w_in, z_tb0, z_tb1, z_tb2, z_tb3, z_tb4, z_tb5, z_tb6, z_tb7, z_tb8, z_tbl, z_tu0, z_tu1, z_tu2, z_i_62, z_i_63, z_i_86, z_i_88, z_l_Y, z_ui_62, z_ui_63, z_ui_86, z_ui_88, z_ul_Y, z_sz_Y, z_sw_Y, iI_nat, z_ix_t, z_at, Int.add_zero, Int.sub_zero, Int.zero_add, Int.mul_zero, ne_eq, Bool.false_eq_true, Bool.true_eq_false, reduceCtorEq, eq_self, and_true, true_and, and_false, false_and, and_self, not_true_eq_false, not_false_eq_true, decide_true, decide_false, ↓reduceIte, Int.reduceEq, Int.reduceNe, Int.reduceLT, Int.reduceLE, Int.reduceAdd, Int.reduceSub, Int.reduceMul, Int.reduceNeg, Nat.reduceAdd, Nat.reduceEqDiff, Nat.reduceBEq, ↓z_x_eq, z_g_t, z_bI_s, z_bL_s, z_bR_s, z_bV_s, Int.cast_ofNat_Int, beq_self_eq_true, Bool.and_true, Bool.true_and, Bool.and_self, Bool.or_true, Bool.true_or, Bool.false_and, Bool.and_false, Bool.false_or, Bool.or_false, Bool.not_false, Bool.not_true, if_true, if_false, ite_true, ite_false, z_up_eq, z_up_app, z_ro_eq, r6, h6]
    · have c0p : (0 < G 11 0) = True := eq_true (by omega)
      have rS : x - i_div x (G 11 0) * G 11 0 = x % G 11 0 := i_remn (by omega) (by omega)
      have hs0 := Int.emod_nonneg x c0
      have hs1 := Int.emod_lt_of_pos x (show 0 < G 11 0 by omega)
      have sin := k_sit_in G (x % G 11 0)
      have ws := fun s => p_whoSitsA (d + 3) T G s (x := x % G 11 0) ⟨by omega, by omega⟩ (k_at_in hC0)
      by_cases c1 : k_sit G (x % G 11 0) = -1
      · refine ⟨z_up G 21 (z_ro (G 21) p (x % G 11 0)), z_up_ne _ _ (by omega), fun s => ?_, fun r a => z_up_ne _ _ (by omega), fun A Gm s hC e q e2 => ?_⟩
        · dsimp only
          rw [cway s, e_De_happen_11]
          simp -implicitDefEqProofs (disch := first | assumption | omega | rfl | (simp only [z_up_eq, z_up_app, ↓reduceIte, Nat.reduceEqDiff]; omega)) only [z_lit0, z_lit1, z_lit2, z_litl, iI_add, iI_sub, iI_mul, iI_neg, iI_and, iI_or, iI_xor, iI_shl, iI_shr, iI_ushr, iI_div, iI_b, iI_c, iI_i2l, lI_l2i, lI_add, lI_sub, lI_mul, lI_neg, lI_div, lI_or, lI_and, lI_shl, lI_shr, nI_iI, lg_lt0, lg_gt0, lg_eq0, i_ne0', l_ne0', iI_lt, iI_le, iI_eq, lI_lt, lI_le, lI_eq, zb_0, zb_fit, zb_fit0, zb_fit1, i_one_zero, i_w_in, z_tb0, z_tb1, z_tb2, z_tb3, z_tb4, z_tb5, z_tb6, z_tb7, z_tb8, z_tbl, z_tu0, z_tu1, z_tu2, z_i_62, z_i_63, z_i_86, z_i_88, z_l_Y, z_ui_62, z_ui_63, z_ui_86, z_ui_88, z_ul_Y, z_sz_Y, z_sw_Y, iI_nat, z_ix_t, z_at, Int.add_zero, Int.sub_zero, Int.zero_add, Int.mul_zero, ne_eq, Bool.false_eq_true, Bool.true_eq_false, reduceCtorEq, eq_self, and_true, true_and, and_false, false_and, and_self, not_true_eq_false, not_false_eq_true, decide_true, decide_false, ↓reduceIte, Int.reduceEq, Int.reduceNe, Int.reduceLT, Int.reduceLE, Int.reduceAdd, Int.reduceSub, Int.reduceMul, Int.reduceNeg, Nat.reduceAdd, Nat.reduceEqDiff, Nat.reduceBEq, ↓z_x_eq, z_g_t, z_bI_s, z_bL_s, z_bR_s, z_bV_s, Int.cast_ofNat_Int, beq_self_eq_true, Bool.and_true, Bool.true_and, Bool.and_self, Bool.or_true, Bool.true_or, Bool.false_and, Bool.and_false, Bool.false_or, Bool.or_false, Bool.not_false, Bool.not_true, if_true, if_false, ite_true, ite_false, z_up_eq, z_up_app, z_ro_eq, r6, h6, e_De_sitByChance, c0p, rS, ws, c1]
          exact ok_q
        · have q0 := (dw_h hC).1
          have q1' := (dw_h hC).2.1
          have m1 := hC.1.2.1
          have m0 := hC.1.1
          have nf := k_sit_no hC hs0 c1
          rw [k_sit_eq hC hs0] at c1
          rw [q0] at c0 hs0 hs1 c1 nf ⊢
          have so := p_sitterOf (d + 5) T Gm s (x := x % A 0) ⟨by omega, by omega⟩ q.1
          rw [e, c1] at so
          dsimp only
          rw [mway A Gm s hC e, if_neg c0, e_M_happens_30]
          have n1 : (x % A 0 = -1) = False := eq_false (by omega)
          simp -implicitDefEqProofs (disch := first | assumption | omega | rfl | (simp only [z_up_eq, z_up_app, ↓reduceIte, Nat.reduceEqDiff]; omega)) only [z_lit0, z_lit1, z_lit2, z_litl, iI_add, iI_sub, iI_mul, iI_neg, iI_and, iI_or, iI_xor, iI_shl, iI_shr, iI_ushr, iI_div, iI_b, iI_c, iI_i2l, lI_l2i, lI_add, lI_sub, lI_mul, lI_neg, lI_div, lI_or, lI_and, lI_shl, lI_shr, nI_iI, lg_lt0, lg_gt0, lg_eq0, i_ne0', l_ne0', iI_lt, iI_le, iI_eq, lI_lt, lI_le, lI_eq, zb_0, zb_fit, zb_fit0, zb_fit1, i_one_zero, i_w_in, z_tb0, z_tb1, z_tb2, z_tb3, z_tb4, z_tb5, z_tb6, z_tb7, z_tb8, z_tbl, z_tu0, z_tu1, z_tu2, z_i_62, z_i_63, z_i_86, z_i_88, z_l_Y, z_ui_62, z_ui_63, z_ui_86, z_ui_88, z_ul_Y, z_sz_Y, z_sw_Y, iI_nat, z_ix_t, z_at, Int.add_zero, Int.sub_zero, Int.zero_add, Int.mul_zero, ne_eq, Bool.false_eq_true, Bool.true_eq_false, reduceCtorEq, eq_self, and_true, true_and, and_false, false_and, and_self, not_true_eq_false, not_false_eq_true, decide_true, decide_false, ↓reduceIte, Int.reduceEq, Int.reduceNe, Int.reduceLT, Int.reduceLE, Int.reduceAdd, Int.reduceSub, Int.reduceMul, Int.reduceNeg, Nat.reduceAdd, Nat.reduceEqDiff, Nat.reduceBEq, ↓z_x_eq, z_g_t, z_bI_s, z_bL_s, z_bR_s, z_bV_s, Int.cast_ofNat_Int, beq_self_eq_true, Bool.and_true, Bool.true_and, Bool.and_self, Bool.or_true, Bool.true_or, Bool.false_and, Bool.and_false, Bool.false_or, Bool.or_false, Bool.not_false, Bool.not_true, if_true, if_false, ite_true, ite_false, z_up_eq, z_up_app, z_ro_eq, r6, h6, n1, so, p_set, e]
          exact ok_ret ⟨rfl, _, s, rfl, D_at hC (p := p) (by omega) ⟨by omega, hs1⟩ nf, z_ro_ne _ _ (by omega)⟩
      · refine same (fun s => ?_) (fun A Gm s hC e q e2 => ?_)
        · rw [cway s, e_De_happen_11]
          simp -implicitDefEqProofs (disch := first | assumption | omega | rfl | (simp only [z_up_eq, z_up_app, ↓reduceIte, Nat.reduceEqDiff]; omega)) only [z_lit0, z_lit1, z_lit2, z_litl, iI_add, iI_sub, iI_mul, iI_neg, iI_and, iI_or, iI_xor, iI_shl, iI_shr, iI_ushr, iI_div, iI_b, iI_c, iI_i2l, lI_l2i, lI_add, lI_sub, lI_mul, lI_neg, lI_div, lI_or, lI_and, lI_shl, lI_shr, nI_iI, lg_lt0, lg_gt0, lg_eq0, i_ne0', l_ne0', iI_lt, iI_le, iI_eq, lI_lt, lI_le, lI_eq, zb_0, zb_fit, zb_fit0, zb_fit1, i_one_zero, i_w_in, z_tb0, z_tb1, z_tb2, z_tb3, z_tb4, z_tb5, z_tb6, z_tb7, z_tb8, z_tbl, z_tu0, z_tu1, z_tu2, z_i_62, z_i_63, z_i_86, z_i_88, z_l_Y, z_ui_62, z_ui_63, z_ui_86, z_ui_88, z_ul_Y, z_sz_Y, z_sw_Y, iI_nat, z_ix_t, z_at, Int.add_zero, Int.sub_zero, Int.zero_add, Int.mul_zero, ne_eq, Bool.false_eq_true, Bool.true_eq_false, reduceCtorEq, eq_self, and_true, true_and, and_false, false_and, and_self, not_true_eq_false, not_false_eq_true, decide_true, decide_false, ↓reduceIte, Int.reduceEq, Int.reduceNe, Int.reduceLT, Int.reduceLE, Int.reduceAdd, Int.reduceSub, Int.reduceMul, Int.reduceNeg, Nat.reduceAdd, Nat.reduceEqDiff, Nat.reduceBEq, ↓z_x_eq, z_g_t, z_bI_s, z_bL_s, z_bR_s, z_bV_s, Int.cast_ofNat_Int, beq_self_eq_true, Bool.and_true, Bool.true_and, Bool.and_self, Bool.or_true, Bool.true_or, Bool.false_and, Bool.and_false, Bool.false_or, Bool.or_false, Bool.not_false, Bool.not_true, if_true, if_false, ite_true, ite_false, z_up_eq, z_up_app, z_ro_eq, r6, h6, e_De_sitByChance, c0p, rS, ws, c1]
        · have q0 := (dw_h hC).1
          have m0 := hC.1.1
          have m1 := hC.1.2.1
          rw [k_sit_eq hC hs0] at c1
          rw [q0] at c0 hs0 hs1 c1
          have so := p_sitterOf (d + 5) T Gm s (x := x % A 0) ⟨by omega, by omega⟩ q.1
          rw [e] at so
          have sinA : i_in (m_sit A (x % A 0)) := by
            rcases m_sit_or (x := x % A 0) hC.1 with q | ⟨q1, q2, q3⟩
            · rw [q]; exact ⟨by omega, by omega⟩
            · exact ⟨by omega, by omega⟩
          rw [mway A Gm s hC e, if_neg c0, e_M_happens_30]
          have n1 : (x % A 0 = -1) = False := eq_false (by omega)
          simp -implicitDefEqProofs (disch := first | assumption | omega | rfl | (simp only [z_up_eq, z_up_app, ↓reduceIte, Nat.reduceEqDiff]; omega)) only [z_lit0, z_lit1, z_lit2, z_litl, iI_add, iI_sub, iI_mul, iI_neg, iI_and, iI_or, iI_xor, iI_shl, iI_shr, iI_ushr, iI_div, iI_b, iI_c, iI_i2l, lI_l2i, lI_add, lI_sub, lI_mul, lI_neg, lI_div, lI_or, lI_and, lI_shl, lI_shr, nI_iI, lg_lt0, lg_gt0, lg_eq0, i_ne0', l_ne0', iI_lt, iI_le, iI_eq, lI_lt, lI_le, lI_eq, zb_0, zb_fit, zb_fit0, zb_fit1, i_one_zero, i_w_in, z_tb0, z_tb1, z_tb2, z_tb3, z_tb4, z_tb5, z_tb6, z_tb7, z_tb8, z_tbl, z_tu0, z_tu1, z_tu2, z_i_62, z_i_63, z_i_86, z_i_88, z_l_Y, z_ui_62, z_ui_63, z_ui_86, z_ui_88, z_ul_Y, z_sz_Y, z_sw_Y, iI_nat, z_ix_t, z_at, Int.add_zero, Int.sub_zero, Int.zero_add, Int.mul_zero, ne_eq, Bool.false_eq_true, Bool.true_eq_false, reduceCtorEq, eq_self, and_true, true_and, and_false, false_and, and_self, not_true_eq_false, not_false_eq_true, decide_true, decide_false, ↓reduceIte, Int.reduceEq, Int.reduceNe, Int.reduceLT, Int.reduceLE, Int.reduceAdd, Int.reduceSub, Int.reduceMul, Int.reduceNeg, Nat.reduceAdd, Nat.reduceEqDiff, Nat.reduceBEq, ↓z_x_eq, z_g_t, z_bI_s, z_bL_s, z_bR_s, z_bV_s, Int.cast_ofNat_Int, beq_self_eq_true, Bool.and_true, Bool.true_and, Bool.and_self, Bool.or_true, Bool.true_or, Bool.false_and, Bool.and_false, Bool.false_or, Bool.or_false, Bool.not_false, Bool.not_true, if_true, if_false, ite_true, ite_false, z_up_eq, z_up_app, z_ro_eq, r6, h6, n1, so, c1]
  · refine ⟨z_up G 22 (z_ro (G 22) p (x % 3)), z_up_ne _ _ (by omega), fun s => ?_, fun r a => z_up_ne _ _ (by omega), fun A Gm s hC e q e2 => ?_⟩
    · dsimp only
      rw [cway s, e_De_happen_11]
      simp -implicitDefEqProofs (disch := first | assumption | omega | rfl | (simp only [z_up_eq, z_up_app, ↓reduceIte, Nat.reduceEqDiff]; omega)) only [z_lit0, z_lit1, z_lit2, z_litl, iI_add, iI_sub, iI_mul, iI_neg, iI_and, iI_or, iI_xor, iI_shl, iI_shr, iI_ushr, iI_div, iI_b, iI_c, iI_i2l, lI_l2i, lI_add, lI_sub, lI_mul, lI_neg, lI_div, lI_or, lI_and, lI_shl, lI_shr, nI_iI, lg_lt0, lg_gt0, lg_eq0, i_ne0', l_ne0', iI_lt, iI_le, iI_eq, lI_lt, lI_le, lI_eq, zb_0, zb_fit, zb_fit0, zb_fit1, i_one_zero, i_w_in, z_tb0, z_tb1, z_tb2, z_tb3, z_tb4, z_tb5, z_tb6, z_tb7, z_tb8, z_tbl, z_tu0, z_tu1, z_tu2, z_i_62, z_i_63, z_i_86, z_i_88, z_l_Y, z_ui_62, z_ui_63, z_ui_86, z_ui_88, z_ul_Y, z_sz_Y, z_sw_Y, iI_nat, z_ix_t, z_at, Int.add_zero, Int.sub_zero, Int.zero_add, Int.mul_zero, ne_eq, Bool.false_eq_true, Bool.true_eq_false, reduceCtorEq, eq_self, and_true, true_and, and_false, false_and, and_self, not_true_eq_false, not_false_eq_true, decide_true, decide_false, ↓reduceIte, Int.reduceEq, Int.reduceNe, Int.reduceLT, Int.reduceLE, Int.reduceAdd, Int.reduceSub, Int.reduceMul, Int.reduceNeg, Nat.reduceAdd, Nat.reduceEqDiff, Nat.reduceBEq, ↓z_x_eq, z_g_t, z_bI_s, z_bL_s, z_bR_s, z_bV_s, Int.cast_ofNat_Int, beq_self_eq_true, Bool.and_true, Bool.true_and, Bool.and_self, Bool.or_true, Bool.true_or, Bool.false_and, Bool.and_false, Bool.false_or, Bool.or_false, Bool.not_false, Bool.not_true, if_true, if_false, ite_true, ite_false, z_up_eq, z_up_app, z_ro_eq, r6, h6, r3]
      exact ok_q
    · have q1' := (dw_h hC).2.1
      have m1 := hC.1.2.1
      dsimp only
      rw [mway A Gm s hC e, e_M_happens_30]
      simp -implicitDefEqProofs (disch := first | assumption | omega | rfl | (simp only [z_up_eq, z_up_app, ↓reduceIte, Nat.reduceEqDiff]; omega)) only [z_lit0, z_lit1, z_lit2, z_litl, iI_add, iI_sub, iI_mul, iI_neg, iI_and, iI_or, iI_xor, iI_shl, iI_shr, iI_ushr, iI_div, iI_b, iI_c, iI_i2l, lI_l2i, lI_add, lI_sub, lI_mul, lI_neg, lI_div, lI_or, lI_and, lI_shl, lI_shr, nI_iI, lg_lt0, lg_gt0, lg_eq0, i_ne0', l_ne0', iI_lt, iI_le, iI_eq, lI_lt, lI_le, lI_eq, zb_0, zb_fit, zb_fit0, zb_fit1, i_one_zero, i_w_in, z_tb0, z_tb1, z_tb2, z_tb3, z_tb4, z_tb5, z_tb6, z_tb7, z_tb8, z_tbl, z_tu0, z_tu1, z_tu2, z_i_62, z_i_63, z_i_86, z_i_88, z_l_Y, z_ui_62, z_ui_63, z_ui_86, z_ui_88, z_ul_Y, z_sz_Y, z_sw_Y, iI_nat, z_ix_t, z_at, Int.add_zero, Int.sub_zero, Int.zero_add, Int.mul_zero, ne_eq, Bool.false_eq_true, Bool.true_eq_false, reduceCtorEq, eq_self, and_true, true_and, and_false, false_and, and_self, not_true_eq_false, not_false_eq_true, decide_true, decide_false, ↓reduceIte, Int.reduceEq, Int.reduceNe, Int.reduceLT, Int.reduceLE, Int.reduceAdd, Int.reduceSub, Int.reduceMul, Int.reduceNeg, Nat.reduceAdd, Nat.reduceEqDiff, Nat.reduceBEq, ↓z_x_eq, z_g_t, z_bI_s, z_bL_s, z_bR_s, z_bV_s, Int.cast_ofNat_Int, beq_self_eq_true, Bool.and_true, Bool.true_and, Bool.and_self, Bool.or_true, Bool.true_or, Bool.false_and, Bool.and_false, Bool.false_or, Bool.or_false, Bool.not_false, Bool.not_true, if_true, if_false, ite_true, ite_false, z_up_eq, z_up_app, z_ro_eq, r6, h6, r3, p_set, e]
      exact ok_ret ⟨rfl, _, s, rfl, D_how hC (p := p) (by omega) (by omega), z_ro_ne _ _ (by omega)⟩
  · refine ⟨z_up G 20 (z_ro (G 20) 2 (i_xor (G 20 2) (i_shl 1 (x % 4)))), z_up_ne _ _ (by omega), fun s => ?_, fun r a => z_up_ne _ _ (by omega), fun A Gm s hC e q e2 => ?_⟩
    · dsimp only
      rw [cway s, e_De_happen_11]
      simp -implicitDefEqProofs (disch := first | assumption | omega | rfl | (simp only [z_up_eq, z_up_app, ↓reduceIte, Nat.reduceEqDiff]; omega)) only [z_lit0, z_lit1, z_lit2, z_litl, iI_add, iI_sub, iI_mul, iI_neg, iI_and, iI_or, iI_xor, iI_shl, iI_shr, iI_ushr, iI_div, iI_b, iI_c, iI_i2l, lI_l2i, lI_add, lI_sub, lI_mul, lI_neg, lI_div, lI_or, lI_and, lI_shl, lI_shr, nI_iI, lg_lt0, lg_gt0, lg_eq0, i_ne0', l_ne0', iI_lt, iI_le, iI_eq, lI_lt, lI_le, lI_eq, zb_0, zb_fit, zb_fit0, zb_fit1, i_one_zero, i_w_in, z_tb0, z_tb1, z_tb2, z_tb3, z_tb4, z_tb5, z_tb6, z_tb7, z_tb8, z_tbl, z_tu0, z_tu1, z_tu2, z_i_62, z_i_63, z_i_86, z_i_88, z_l_Y, z_ui_62, z_ui_63, z_ui_86, z_ui_88, z_ul_Y, z_sz_Y, z_sw_Y, iI_nat, z_ix_t, z_at, Int.add_zero, Int.sub_zero, Int.zero_add, Int.mul_zero, ne_eq, Bool.false_eq_true, Bool.true_eq_false, reduceCtorEq, eq_self, and_true, true_and, and_false, false_and, and_self, not_true_eq_false, not_false_eq_true, decide_true, decide_false, ↓reduceIte, Int.reduceEq, Int.reduceNe, Int.reduceLT, Int.reduceLE, Int.reduceAdd, Int.reduceSub, Int.reduceMul, Int.reduceNeg, Nat.reduceAdd, Nat.reduceEqDiff, Nat.reduceBEq, ↓z_x_eq, z_g_t, z_bI_s, z_bL_s, z_bR_s, z_bV_s, Int.cast_ofNat_Int, beq_self_eq_true, Bool.and_true, Bool.true_and, Bool.and_self, Bool.or_true, Bool.true_or, Bool.false_and, Bool.and_false, Bool.false_or, Bool.or_false, Bool.not_false, Bool.not_true, if_true, if_false, ite_true, ite_false, z_up_eq, z_up_app, z_ro_eq, r6, h6, r4]
      exact ok_q
    · have dm := dw_m hC
      have m8 := hC.1.2.2.2.2.2.2.2.2.1
      rw [dm.1]
      dsimp only
      rw [mway A Gm s hC e, e_M_happens_30]
      simp -implicitDefEqProofs (disch := first | assumption | omega | rfl | (simp only [z_up_eq, z_up_app, ↓reduceIte, Nat.reduceEqDiff]; omega)) only [z_lit0, z_lit1, z_lit2, z_litl, iI_add, iI_sub, iI_mul, iI_neg, iI_and, iI_or, iI_xor, iI_shl, iI_shr, iI_ushr, iI_div, iI_b, iI_c, iI_i2l, lI_l2i, lI_add, lI_sub, lI_mul, lI_neg, lI_div, lI_or, lI_and, lI_shl, lI_shr, nI_iI, lg_lt0, lg_gt0, lg_eq0, i_ne0', l_ne0', iI_lt, iI_le, iI_eq, lI_lt, lI_le, lI_eq, zb_0, zb_fit, zb_fit0, zb_fit1, i_one_zero, i_w_in, z_tb0, z_tb1, z_tb2, z_tb3, z_tb4, z_tb5, z_tb6, z_tb7, z_tb8, z_tbl, z_tu0, z_tu1, z_tu2, z_i_62, z_i_63, z_i_86, z_i_88, z_l_Y, z_ui_62, z_ui_63, z_ui_86, z_ui_88, z_ul_Y, z_sz_Y, z_sw_Y, iI_nat, z_ix_t, z_at, Int.add_zero, Int.sub_zero, Int.zero_add, Int.mul_zero, ne_eq, Bool.false_eq_true, Bool.true_eq_false, reduceCtorEq, eq_self, and_true, true_and, and_false, false_and, and_self, not_true_eq_false, not_false_eq_true, decide_true, decide_false, ↓reduceIte, Int.reduceEq, Int.reduceNe, Int.reduceLT, Int.reduceLE, Int.reduceAdd, Int.reduceSub, Int.reduceMul, Int.reduceNeg, Nat.reduceAdd, Nat.reduceEqDiff, Nat.reduceBEq, ↓z_x_eq, z_g_t, z_bI_s, z_bL_s, z_bR_s, z_bV_s, Int.cast_ofNat_Int, beq_self_eq_true, Bool.and_true, Bool.true_and, Bool.and_self, Bool.or_true, Bool.true_or, Bool.false_and, Bool.and_false, Bool.false_or, Bool.or_false, Bool.not_false, Bool.not_true, if_true, if_false, ite_true, ite_false, z_up_eq, z_up_app, z_ro_eq, r6, h6, r4, e]
      exact ok_ret ⟨rfl, _, s, rfl, D_ush hC (i_xor_u m8 (by omega)), z_ro_ne _ _ (by omega)⟩
  · have pc := fun s => p_cghK (d + 4) T G s (p := p) (b := G 20 3) ⟨⟨by omega, by omega⟩, ⟨by omega, by omega⟩⟩ hC0
    cases c2 : k_cgh G p (G 20 3)
    · rw [c2] at pc
      have kf := k_spr_fr G p
      refine ⟨k_spr G p, kf.1 11 (by omega) (by omega) (by omega), fun s => ?_, fun r a => kf.1 r (by omega) (by omega) (by omega), fun A Gm s hC e q e2 => ?_⟩
      · obtain ⟨s', es⟩ := p_spread d T G s hC0 hT0 (p := p) (by omega)
        dsimp only
        rw [cway s, e_De_happen_11]
        simp -implicitDefEqProofs (disch := first | assumption | omega | rfl | (simp only [z_up_eq, z_up_app, ↓reduceIte, Nat.reduceEqDiff]; omega)) only [z_lit0, z_lit1, z_lit2, z_litl, iI_add, iI_sub, iI_mul, iI_neg, iI_and, iI_or, iI_xor, iI_shl, iI_shr, iI_ushr, iI_div, iI_b, iI_c, iI_i2l, lI_l2i, lI_add, lI_sub, lI_mul, lI_neg, lI_div, lI_or, lI_and, lI_shl, lI_shr, nI_iI, lg_lt0, lg_gt0, lg_eq0, i_ne0', l_ne0', iI_lt, iI_le, iI_eq, lI_lt, lI_le, lI_eq, zb_0, zb_fit, zb_fit0, zb_fit1, i_one_zero, i_w_in, z_tb0, z_tb1, z_tb2, z_tb3, z_tb4, z_tb5, z_tb6, z_tb7, z_tb8, z_tbl, z_tu0, z_tu1, z_tu2, z_i_62, z_i_63, z_i_86, z_i_88, z_l_Y, z_ui_62, z_ui_63, z_ui_86, z_ui_88, z_ul_Y, z_sz_Y, z_sw_Y, iI_nat, z_ix_t, z_at, Int.add_zero, Int.sub_zero, Int.zero_add, Int.mul_zero, ne_eq, Bool.false_eq_true, Bool.true_eq_false, reduceCtorEq, eq_self, and_true, true_and, and_false, false_and, and_self, not_true_eq_false, not_false_eq_true, decide_true, decide_false, ↓reduceIte, Int.reduceEq, Int.reduceNe, Int.reduceLT, Int.reduceLE, Int.reduceAdd, Int.reduceSub, Int.reduceMul, Int.reduceNeg, Nat.reduceAdd, Nat.reduceEqDiff, Nat.reduceBEq, ↓z_x_eq, z_g_t, z_bI_s, z_bL_s, z_bR_s, z_bV_s, Int.cast_ofNat_Int, beq_self_eq_true, Bool.and_true, Bool.true_and, Bool.and_self, Bool.or_true, Bool.true_or, Bool.false_and, Bool.and_false, Bool.false_or, Bool.or_false, Bool.not_false, Bool.not_true, if_true, if_false, ite_true, ite_false, z_up_eq, z_up_app, z_ro_eq, r6, h6, pc, zb_f, es]
        exact ok_q
      · have q1' := (dw_h hC).2.1
        have m1 := hC.1.2.1
        have m3 := hC.1.2.2.2.1
        have dm := dw_m hC
        have ec := k_cgh_eq hC p (A 3)
        rw [dm.2.1, ec] at c2
        have pm := p_mcgh (d + 6) T Gm s (p := p) (b := A 3) ⟨⟨by omega, by omega⟩, ⟨by omega, by omega⟩⟩ q.1
        rw [e, c2] at pm
        obtain ⟨s2, e3⟩ := p_mspr (d + 1) T Gm s (p := p) q (by rw [e]; omega)
        rw [e, e2] at e3
        obtain ⟨hS, hF⟩ := C_spr hC (p := p) (by omega)
        dsimp only
        rw [mway A Gm s hC e, e_M_happens_30]
        simp -implicitDefEqProofs (disch := first | assumption | omega | rfl | (simp only [z_up_eq, z_up_app, ↓reduceIte, Nat.reduceEqDiff]; omega)) only [z_lit0, z_lit1, z_lit2, z_litl, iI_add, iI_sub, iI_mul, iI_neg, iI_and, iI_or, iI_xor, iI_shl, iI_shr, iI_ushr, iI_div, iI_b, iI_c, iI_i2l, lI_l2i, lI_add, lI_sub, lI_mul, lI_neg, lI_div, lI_or, lI_and, lI_shl, lI_shr, nI_iI, lg_lt0, lg_gt0, lg_eq0, i_ne0', l_ne0', iI_lt, iI_le, iI_eq, lI_lt, lI_le, lI_eq, zb_0, zb_fit, zb_fit0, zb_fit1, i_one_zero, i_w_in, z_tb0, z_tb1, z_tb2, z_tb3, z_tb4, z_tb5, z_tb6, z_tb7, z_tb8, z_tbl, z_tu0, z_tu1, z_tu2, z_i_62, z_i_63, z_i_86, z_i_88, z_l_Y, z_ui_62, z_ui_63, z_ui_86, z_ui_88, z_ul_Y, z_sz_Y, z_sw_Y, iI_nat, z_ix_t, z_at, Int.add_zero, Int.sub_zero, Int.zero_add, Int.mul_zero, ne_eq, Bool.false_eq_true, Bool.true_eq_false, reduceCtorEq, eq_self, and_true, true_and, and_false, false_and, and_self, not_true_eq_false, not_false_eq_true, decide_true, decide_false, ↓reduceIte, Int.reduceEq, Int.reduceNe, Int.reduceLT, Int.reduceLE, Int.reduceAdd, Int.reduceSub, Int.reduceMul, Int.reduceNeg, Nat.reduceAdd, Nat.reduceEqDiff, Nat.reduceBEq, ↓z_x_eq, z_g_t, z_bI_s, z_bL_s, z_bR_s, z_bV_s, Int.cast_ofNat_Int, beq_self_eq_true, Bool.and_true, Bool.true_and, Bool.and_self, Bool.or_true, Bool.true_or, Bool.false_and, Bool.and_false, Bool.false_or, Bool.or_false, Bool.not_false, Bool.not_true, if_true, if_false, ite_true, ite_false, z_up_eq, z_up_app, z_ro_eq, r6, h6, e, pm, zb_f, e3]
        exact ok_ret ⟨rfl, _, s2, rfl, hS, hF 5 (by omega) (by omega) (by omega)⟩
    · rw [c2] at pc
      refine same (fun s => ?_) (fun A Gm s hC e q e2 => ?_)
      · rw [cway s, e_De_happen_11]
        simp -implicitDefEqProofs (disch := first | assumption | omega | rfl | (simp only [z_up_eq, z_up_app, ↓reduceIte, Nat.reduceEqDiff]; omega)) only [z_lit0, z_lit1, z_lit2, z_litl, iI_add, iI_sub, iI_mul, iI_neg, iI_and, iI_or, iI_xor, iI_shl, iI_shr, iI_ushr, iI_div, iI_b, iI_c, iI_i2l, lI_l2i, lI_add, lI_sub, lI_mul, lI_neg, lI_div, lI_or, lI_and, lI_shl, lI_shr, nI_iI, lg_lt0, lg_gt0, lg_eq0, i_ne0', l_ne0', iI_lt, iI_le, iI_eq, lI_lt, lI_le, lI_eq, zb_0, zb_fit, zb_fit0, zb_fit1, i_one_zero, i_w_in, z_tb0, z_tb1, z_tb2, z_tb3, z_tb4, z_tb5, z_tb6, z_tb7, z_tb8, z_tbl, z_tu0, z_tu1, z_tu2, z_i_62, z_i_63, z_i_86, z_i_88, z_l_Y, z_ui_62, z_ui_63, z_ui_86, z_ui_88, z_ul_Y, z_sz_Y, z_sw_Y, iI_nat, z_ix_t, z_at, Int.add_zero, Int.sub_zero, Int.zero_add, Int.mul_zero, ne_eq, Bool.false_eq_true, Bool.true_eq_false, reduceCtorEq, eq_self, and_true, true_and, and_false, false_and, and_self, not_true_eq_false, not_false_eq_true, decide_true, decide_false, ↓reduceIte, Int.reduceEq, Int.reduceNe, Int.reduceLT, Int.reduceLE, Int.reduceAdd, Int.reduceSub, Int.reduceMul, Int.reduceNeg, Nat.reduceAdd, Nat.reduceEqDiff, Nat.reduceBEq, ↓z_x_eq, z_g_t, z_bI_s, z_bL_s, z_bR_s, z_bV_s, Int.cast_ofNat_Int, beq_self_eq_true, Bool.and_true, Bool.true_and, Bool.and_self, Bool.or_true, Bool.true_or, Bool.false_and, Bool.and_false, Bool.false_or, Bool.or_false, Bool.not_false, Bool.not_true, if_true, if_false, ite_true, ite_false, z_up_eq, z_up_app, z_ro_eq, r6, h6, pc, zb_t]
      · have q1' := (dw_h hC).2.1
        have m1 := hC.1.2.1
        have m3 := hC.1.2.2.2.1
        have dm := dw_m hC
        have ec := k_cgh_eq hC p (A 3)
        rw [dm.2.1, ec] at c2
        have pm := p_mcgh (d + 6) T Gm s (p := p) (b := A 3) ⟨⟨by omega, by omega⟩, ⟨by omega, by omega⟩⟩ q.1
        rw [e, c2] at pm
        rw [mway A Gm s hC e, e_M_happens_30]
        simp -implicitDefEqProofs (disch := first | assumption | omega | rfl | (simp only [z_up_eq, z_up_app, ↓reduceIte, Nat.reduceEqDiff]; omega)) only [z_lit0, z_lit1, z_lit2, z_litl, iI_add, iI_sub, iI_mul, iI_neg, iI_and, iI_or, iI_xor, iI_shl, iI_shr, iI_ushr, iI_div, iI_b, iI_c, iI_i2l, lI_l2i, lI_add, lI_sub, lI_mul, lI_neg, lI_div, lI_or, lI_and, lI_shl, lI_shr, nI_iI, lg_lt0, lg_gt0, lg_eq0, i_ne0', l_ne0', iI_lt, iI_le, iI_eq, lI_lt, lI_le, lI_eq, zb_0, zb_fit, zb_fit0, zb_fit1, i_one_zero, i_w_in, z_tb0, z_tb1, z_tb2, z_tb3, z_tb4, z_tb5, z_tb6, z_tb7, z_tb8, z_tbl, z_tu0, z_tu1, z_tu2, z_i_62, z_i_63, z_i_86, z_i_88, z_l_Y, z_ui_62, z_ui_63, z_ui_86, z_ui_88, z_ul_Y, z_sz_Y, z_sw_Y, iI_nat, z_ix_t, z_at, Int.add_zero, Int.sub_zero, Int.zero_add, Int.mul_zero, ne_eq, Bool.false_eq_true, Bool.true_eq_false, reduceCtorEq, eq_self, and_true, true_and, and_false, false_and, and_self, not_true_eq_false, not_false_eq_true, decide_true, decide_false, ↓reduceIte, Int.reduceEq, Int.reduceNe, Int.reduceLT, Int.reduceLE, Int.reduceAdd, Int.reduceSub, Int.reduceMul, Int.reduceNeg, Nat.reduceAdd, Nat.reduceEqDiff, Nat.reduceBEq, ↓z_x_eq, z_g_t, z_bI_s, z_bL_s, z_bR_s, z_bV_s, Int.cast_ofNat_Int, beq_self_eq_true, Bool.and_true, Bool.true_and, Bool.and_self, Bool.or_true, Bool.true_or, Bool.false_and, Bool.and_false, Bool.false_or, Bool.or_false, Bool.not_false, Bool.not_true, if_true, if_false, ite_true, ite_false, z_up_eq, z_up_app, z_ro_eq, r6, h6, e, pm, zb_t]
  · obtain ⟨n0, n1, n2, n3⟩ := h6
    have e0 : (x % 6 = 0) = False := eq_false n0
    have e1 : (x % 6 = 1) = False := eq_false n1
    have e2 : (x % 6 = 2) = False := eq_false n2
    have e3 : (x % 6 = 3) = False := eq_false n3
    refine ⟨z_up G 20 (z_ro (G 20) 3 (min (G 20 3 + 1) 9999)), z_up_ne _ _ (by omega), fun s => ?_, fun r a => z_up_ne _ _ (by omega), fun A Gm s hC e q e4 => ?_⟩
    · dsimp only
      rw [cway s, e_De_happen_11]
      simp -implicitDefEqProofs (disch := first | assumption | omega | rfl | (simp only [z_up_eq, z_up_app, ↓reduceIte, Nat.reduceEqDiff]; omega)) only [z_lit0, z_lit1, z_lit2, z_litl, iI_add, iI_sub, iI_mul, iI_neg, iI_and, iI_or, iI_xor, iI_shl, iI_shr, iI_ushr, iI_div, iI_b, iI_c, iI_i2l, lI_l2i, lI_add, lI_sub, lI_mul, lI_neg, lI_div, lI_or, lI_and, lI_shl, lI_shr, nI_iI, lg_lt0, lg_gt0, lg_eq0, i_ne0', l_ne0', iI_lt, iI_le, iI_eq, lI_lt, lI_le, lI_eq, zb_0, zb_fit, zb_fit0, zb_fit1, i_one_zero, i_w_in, z_tb0, z_tb1, z_tb2, z_tb3, z_tb4, z_tb5, z_tb6, z_tb7, z_tb8, z_tbl, z_tu0, z_tu1, z_tu2, z_i_62, z_i_63, z_i_86, z_i_88, z_l_Y, z_ui_62, z_ui_63, z_ui_86, z_ui_88, z_ul_Y, z_sz_Y, z_sw_Y, iI_nat, z_ix_t, z_at, Int.add_zero, Int.sub_zero, Int.zero_add, Int.mul_zero, ne_eq, Bool.false_eq_true, Bool.true_eq_false, reduceCtorEq, eq_self, and_true, true_and, and_false, false_and, and_self, not_true_eq_false, not_false_eq_true, decide_true, decide_false, ↓reduceIte, Int.reduceEq, Int.reduceNe, Int.reduceLT, Int.reduceLE, Int.reduceAdd, Int.reduceSub, Int.reduceMul, Int.reduceNeg, Nat.reduceAdd, Nat.reduceEqDiff, Nat.reduceBEq, ↓z_x_eq, z_g_t, z_bI_s, z_bL_s, z_bR_s, z_bV_s, Int.cast_ofNat_Int, beq_self_eq_true, Bool.and_true, Bool.true_and, Bool.and_self, Bool.or_true, Bool.true_or, Bool.false_and, Bool.and_false, Bool.false_or, Bool.or_false, Bool.not_false, Bool.not_true, if_true, if_false, ite_true, ite_false, z_up_eq, z_up_app, z_ro_eq, r6, e0, e1, e2, e3, p_min]
      exact ok_q
    · have dm := dw_m hC
      have m3 := hC.1.2.2.2.1
      have hD := D_bt hC (v := min (A 3 + 1) 9999) (by omega)
      rw [dm.2.1]
      dsimp only
      rw [mway A Gm s hC e, e_M_happens_30]
      by_cases c : A 3 < 9999
      · rw [show min (A 3 + 1) 9999 = A 3 + 1 by omega] at hD ⊢
        simp -implicitDefEqProofs (disch := first | assumption | omega | rfl | (simp only [z_up_eq, z_up_app, ↓reduceIte, Nat.reduceEqDiff]; omega)) only [z_lit0, z_lit1, z_lit2, z_litl, iI_add, iI_sub, iI_mul, iI_neg, iI_and, iI_or, iI_xor, iI_shl, iI_shr, iI_ushr, iI_div, iI_b, iI_c, iI_i2l, lI_l2i, lI_add, lI_sub, lI_mul, lI_neg, lI_div, lI_or, lI_and, lI_shl, lI_shr, nI_iI, lg_lt0, lg_gt0, lg_eq0, i_ne0', l_ne0', iI_lt, iI_le, iI_eq, lI_lt, lI_le, lI_eq, zb_0, zb_fit, zb_fit0, zb_fit1, i_one_zero, i_w_in, z_tb0, z_tb1, z_tb2, z_tb3, z_tb4, z_tb5, z_tb6, z_tb7, z_tb8, z_tbl, z_tu0, z_tu1, z_tu2, z_i_62, z_i_63, z_i_86, z_i_88, z_l_Y, z_ui_62, z_ui_63, z_ui_86, z_ui_88, z_ul_Y, z_sz_Y, z_sw_Y, iI_nat, z_ix_t, z_at, Int.add_zero, Int.sub_zero, Int.zero_add, Int.mul_zero, ne_eq, Bool.false_eq_true, Bool.true_eq_false, reduceCtorEq, eq_self, and_true, true_and, and_false, false_and, and_self, not_true_eq_false, not_false_eq_true, decide_true, decide_false, ↓reduceIte, Int.reduceEq, Int.reduceNe, Int.reduceLT, Int.reduceLE, Int.reduceAdd, Int.reduceSub, Int.reduceMul, Int.reduceNeg, Nat.reduceAdd, Nat.reduceEqDiff, Nat.reduceBEq, ↓z_x_eq, z_g_t, z_bI_s, z_bL_s, z_bR_s, z_bV_s, Int.cast_ofNat_Int, beq_self_eq_true, Bool.and_true, Bool.true_and, Bool.and_self, Bool.or_true, Bool.true_or, Bool.false_and, Bool.and_false, Bool.false_or, Bool.or_false, Bool.not_false, Bool.not_true, if_true, if_false, ite_true, ite_false, z_up_eq, z_up_app, z_ro_eq, r6, e0, e1, e2, e3, e, c]
        exact ok_ret ⟨rfl, _, s, rfl, hD, z_ro_ne _ _ (by omega)⟩
      · have e9 : z_ro A 3 (min (A 3 + 1) 9999) = A := by
          rw [show min (A 3 + 1) 9999 = A 3 by omega]; exact z_ro_id A 3
        rw [e9] at hD
        simp -implicitDefEqProofs (disch := first | assumption | omega | rfl | (simp only [z_up_eq, z_up_app, ↓reduceIte, Nat.reduceEqDiff]; omega)) only [z_lit0, z_lit1, z_lit2, z_litl, iI_add, iI_sub, iI_mul, iI_neg, iI_and, iI_or, iI_xor, iI_shl, iI_shr, iI_ushr, iI_div, iI_b, iI_c, iI_i2l, lI_l2i, lI_add, lI_sub, lI_mul, lI_neg, lI_div, lI_or, lI_and, lI_shl, lI_shr, nI_iI, lg_lt0, lg_gt0, lg_eq0, i_ne0', l_ne0', iI_lt, iI_le, iI_eq, lI_lt, lI_le, lI_eq, zb_0, zb_fit, zb_fit0, zb_fit1, i_one_zero, i_w_in, z_tb0, z_tb1, z_tb2, z_tb3, z_tb4, z_tb5, z_tb6, z_tb7, z_tb8, z_tbl, z_tu0, z_tu1, z_tu2, z_i_62, z_i_63, z_i_86, z_i_88, z_l_Y, z_ui_62, z_ui_63, z_ui_86, z_ui_88, z_ul_Y, z_sz_Y, z_sw_Y, iI_nat, z_ix_t, z_at, Int.add_zero, Int.sub_zero, Int.zero_add, Int.mul_zero, ne_eq, Bool.false_eq_true, Bool.true_eq_false, reduceCtorEq, eq_self, and_true, true_and, and_false, false_and, and_self, not_true_eq_false, not_false_eq_true, decide_true, decide_false, ↓reduceIte, Int.reduceEq, Int.reduceNe, Int.reduceLT, Int.reduceLE, Int.reduceAdd, Int.reduceSub, Int.reduceMul, Int.reduceNeg, Nat.reduceAdd, Nat.reduceEqDiff, Nat.reduceBEq, ↓z_x_eq, z_g_t, z_bI_s, z_bL_s, z_bR_s, z_bV_s, Int.cast_ofNat_Int, beq_self_eq_true, Bool.and_true, Bool.true_and, Bool.and_self, Bool.or_true, Bool.true_or, Bool.false_and, Bool.and_false, Bool.false_or, Bool.or_false, Bool.not_false, Bool.not_true, if_true, if_false, ite_true, ite_false, z_up_eq, z_up_app, z_ro_eq, r6, e0, e1, e2, e3, e, c]
        exact ok_ret ⟨rfl, A, s, by rw [z_up_self e.symm], hD, rfl⟩
theorem p_anew (d : Nat) (T : ZT) (G : ZG) (s : ZG × ZG) (hM : m_ok (G 81)) : z_call (d + 1) 157 [vr 80] (z_Y T G s) = some (vi (iI 0), z_Y T (z_up G 81 (m_dr (G 81))) s) := by
  have m4 := hM.2.2.2.2.1
  have rm : G 81 4 * 277 + 173 - i_div (G 81 4 * 277 + 173) 30271 * 30271 = (G 81 4 * 277 + 173) % 30271 := i_remn (by omega) (by omega)
  unfold m_dr
  rw [e_M_anew]
  simp -implicitDefEqProofs (disch := first | assumption | omega | rfl | (simp only [z_up_eq, z_up_app, ↓reduceIte, Nat.reduceEqDiff]; omega)) only [z_lit0, z_lit1, z_lit2, z_litl, iI_add, iI_sub, iI_mul, iI_neg, iI_and, iI_or, iI_xor, iI_shl, iI_shr, iI_ushr, iI_div, iI_b, iI_c, iI_i2l, lI_l2i, lI_add, lI_sub, lI_mul, lI_neg, lI_div, lI_or, lI_and, lI_shl, lI_shr, nI_iI, lg_lt0, lg_gt0, lg_eq0, i_ne0', l_ne0', iI_lt, iI_le, iI_eq, lI_lt, lI_le, lI_eq, zb_0, zb_fit, zb_fit0, zb_fit1, i_one_zero, i_w_in, z_tb0, z_tb1, z_tb2, z_tb3, z_tb4, z_tb5, z_tb6, z_tb7, z_tb8, z_tbl, z_tu0, z_tu1, z_tu2, z_i_62, z_i_63, z_i_86, z_i_88, z_l_Y, z_ui_62, z_ui_63, z_ui_86, z_ui_88, z_ul_Y, z_sz_Y, z_sw_Y, iI_nat, z_ix_t, z_at, Int.add_zero, Int.sub_zero, Int.zero_add, Int.mul_zero, ne_eq, Bool.false_eq_true, Bool.true_eq_false, reduceCtorEq, eq_self, and_true, true_and, and_false, false_and, and_self, not_true_eq_false, not_false_eq_true, decide_true, decide_false, ↓reduceIte, Int.reduceEq, Int.reduceNe, Int.reduceLT, Int.reduceLE, Int.reduceAdd, Int.reduceSub, Int.reduceMul, Int.reduceNeg, Nat.reduceAdd, Nat.reduceEqDiff, Nat.reduceBEq, ↓z_x_eq, z_g_t, z_bI_s, z_bL_s, z_bR_s, z_bV_s, Int.cast_ofNat_Int, beq_self_eq_true, Bool.and_true, Bool.true_and, Bool.and_self, Bool.or_true, Bool.true_or, Bool.false_and, Bool.and_false, Bool.false_or, Bool.or_false, Bool.not_false, Bool.not_true, if_true, if_false, ite_true, ite_false, z_up_eq, z_up_app, z_ro_eq, rm]
theorem p_sea (d : Nat) (T : ZT) {N : Int} (hN : N ≤ 40) : ∀ (n : Nat) (i : Int) (G : ZG), 0 ≤ i → i + n = N → (∃ A, c_nw A G ∧ t_okA T A G) → G 11 3 ≠ 0 → (i_in (G 80 24) ∧ i_in (G 80 25)) → ∃ G', (∀ s, z_ok (z_w d_De_runSeason (z_call (d + 6)) 59 [some (vr 65), none, some (vi (iI N)), some (vi (iI i))] [] (z_Y T G s)) (z_q T G' (vi (iI (G' 20 3))))) ∧ (∀ r, ¬ (11 ≤ r ∧ r ≤ 32) → G' r = G r) ∧ ∀ A Gm s, c_nw A G → Gm 81 = A → m_q Gm → Gm 83 = G 83 → z_ok (z_w d_M_season (z_call (d + 8)) 50 [some (vr 80), none, some (vi (iI N)), some (vi (iI i)), none] [] (z_Y T Gm s)) (fun y τ => y = vi (iI (G' 20 3)) ∧ ∃ A' s', τ = z_Y T (z_up Gm 81 A') s' ∧ c_nw A' G' ∧ A' 5 = A 5)
  | 0, i, G, h0, h, hE, hP, hH => by
    have hf : (i < N) = False := eq_false (by omega)
    refine ⟨G, fun s => ?_, fun _ _ => rfl, fun A Gm s hC e q e2 => ?_⟩
    · rw [e_De_runSeason_59]
      simp -implicitDefEqProofs (disch := first | assumption | omega | rfl | (simp only [z_up_eq, z_up_app, ↓reduceIte, Nat.reduceEqDiff]; omega)) only [z_lit0, z_lit1, z_lit2, z_litl, iI_add, iI_sub, iI_mul, iI_neg, iI_and, iI_or, iI_xor, iI_shl, iI_shr, iI_ushr, iI_div, iI_b, iI_c, iI_i2l, lI_l2i, lI_add, lI_sub, lI_mul, lI_neg, lI_div, lI_or, lI_and, lI_shl, lI_shr, nI_iI, lg_lt0, lg_gt0, lg_eq0, i_ne0', l_ne0', iI_lt, iI_le, iI_eq, lI_lt, lI_le, lI_eq, zb_0, zb_fit, zb_fit0, zb_fit1, i_one_zero, i_w_in, z_tb0, z_tb1, z_tb2, z_tb3, z_tb4, z_tb5, z_tb6, z_tb7, z_tb8, z_tbl, z_tu0, z_tu1, z_tu2, z_i_62, z_i_63, z_i_86, z_i_88, z_l_Y, z_ui_62, z_ui_63, z_ui_86, z_ui_88, z_ul_Y, z_sz_Y, z_sw_Y, iI_nat, z_ix_t, z_at, Int.add_zero, Int.sub_zero, Int.zero_add, Int.mul_zero, ne_eq, Bool.false_eq_true, Bool.true_eq_false, reduceCtorEq, eq_self, and_true, true_and, and_false, false_and, and_self, not_true_eq_false, not_false_eq_true, decide_true, decide_false, ↓reduceIte, Int.reduceEq, Int.reduceNe, Int.reduceLT, Int.reduceLE, Int.reduceAdd, Int.reduceSub, Int.reduceMul, Int.reduceNeg, Nat.reduceAdd, Nat.reduceEqDiff, Nat.reduceBEq, ↓z_x_eq, z_g_t, z_bI_s, z_bL_s, z_bR_s, z_bV_s, Int.cast_ofNat_Int, beq_self_eq_true, Bool.and_true, Bool.true_and, Bool.and_self, Bool.or_true, Bool.true_or, Bool.false_and, Bool.and_false, Bool.false_or, Bool.or_false, Bool.not_false, Bool.not_true, if_true, if_false, ite_true, ite_false, z_up_eq, z_up_app, z_ro_eq, hf]
      exact ok_q
    · rw [e_M_season_50]
      simp -implicitDefEqProofs (disch := first | assumption | omega | rfl | (simp only [z_up_eq, z_up_app, ↓reduceIte, Nat.reduceEqDiff]; omega)) only [z_lit0, z_lit1, z_lit2, z_litl, iI_add, iI_sub, iI_mul, iI_neg, iI_and, iI_or, iI_xor, iI_shl, iI_shr, iI_ushr, iI_div, iI_b, iI_c, iI_i2l, lI_l2i, lI_add, lI_sub, lI_mul, lI_neg, lI_div, lI_or, lI_and, lI_shl, lI_shr, nI_iI, lg_lt0, lg_gt0, lg_eq0, i_ne0', l_ne0', iI_lt, iI_le, iI_eq, lI_lt, lI_le, lI_eq, zb_0, zb_fit, zb_fit0, zb_fit1, i_one_zero, i_w_in, z_tb0, z_tb1, z_tb2, z_tb3, z_tb4, z_tb5, z_tb6, z_tb7, z_tb8, z_tbl, z_tu0, z_tu1, z_tu2, z_i_62, z_i_63, z_i_86, z_i_88, z_l_Y, z_ui_62, z_ui_63, z_ui_86, z_ui_88, z_ul_Y, z_sz_Y, z_sw_Y, iI_nat, z_ix_t, z_at, Int.add_zero, Int.sub_zero, Int.zero_add, Int.mul_zero, ne_eq, Bool.false_eq_true, Bool.true_eq_false, reduceCtorEq, eq_self, and_true, true_and, and_false, false_and, and_self, not_true_eq_false, not_false_eq_true, decide_true, decide_false, ↓reduceIte, Int.reduceEq, Int.reduceNe, Int.reduceLT, Int.reduceLE, Int.reduceAdd, Int.reduceSub, Int.reduceMul, Int.reduceNeg, Nat.reduceAdd, Nat.reduceEqDiff, Nat.reduceBEq, ↓z_x_eq, z_g_t, z_bI_s, z_bL_s, z_bR_s, z_bV_s, Int.cast_ofNat_Int, beq_self_eq_true, Bool.and_true, Bool.true_and, Bool.and_self, Bool.or_true, Bool.true_or, Bool.false_and, Bool.and_false, Bool.false_or, Bool.or_false, Bool.not_false, Bool.not_true, if_true, if_false, ite_true, ite_false, z_up_eq, z_up_app, z_ro_eq, hf, e]
      exact ok_ret ⟨by rw [(dw_m hC).2.1], A, s, by rw [z_up_self e.symm], hC, rfl⟩
  | n + 1, i, G, h0, h, hE, hP, hH => by
    have hf : (i < N) = True := eq_true (by omega)
    obtain ⟨A0, hC0, hT0⟩ := hE
    have m40 := hC0.1.2.2.2.2.1
    have dm0 := dw_m hC0
    have hd := D_dr hC0
    have kf := k_dr_fr G
    have k11 : k_dr G 11 = G 11 := kf.1 11 (by omega) (by omega) (by omega)
    have k80 : k_dr G 80 = G 80 := kf.1 80 (by omega) (by omega) (by omega)
    have k83 : k_dr G 83 = G 83 := kf.1 83 (by omega) (by omega) (by omega)
    have hTd : t_okA T (m_dr A0) (k_dr G) := t_okA_fr hT0 (z_ro_ne _ _ (by omega)) k83 (fun r a => kf.1 r (by omega) (by omega) (by omega))
    have hh := d_happen d (T := T) (G := k_dr G) ⟨_, hd, hTd⟩ (x := G 20 4) (by omega) (by rw [k11]; exact hP)
    rw [k11] at hh
    obtain ⟨G2, g11, hf2, hr2, hm2⟩ := hh
    have hr2' : ∀ r, ¬ (11 ≤ r ∧ r ≤ 32) → G2 r = G r := fun r a => (hr2 r a).trans (kf.1 r (by omega) (by omega) (by omega))
    have hE2 : ∃ A, c_nw A G2 ∧ t_okA T A G2 := by
      obtain ⟨v, τ, -, -, A', s', -, hc, h5⟩ := hm2 (m_dr A0) (z_up (k_dr G) 81 (m_dr A0)) (fun _ _ => 0, fun _ _ => 0) hd (z_up_eq _ _ _) (by
        unfold m_q
        rw [z_up_eq, z_up_ne _ _ (show 83 ≠ 81 by omega), z_up_ne _ _ (show 80 ≠ 81 by omega), k80]
        exact ⟨hd.1, hTd.1, hH⟩) (z_up_ne _ _ (by omega))
      exact ⟨A', hc, t_okA_fr hTd h5 (hr2 83 (by omega)) (fun r a => hr2 r (by omega))⟩
    obtain ⟨G', i1, i2, i3⟩ := p_sea d T hN n (i + 1) G2 (by omega) (by omega) hE2 (by rw [g11, k11]; exact hP) (by rw [hr2' 80 (by omega)]; exact hH)
    refine ⟨G', fun s => ?_, fun r a => (i2 r a).trans (hr2' r a), fun A Gm s hC e q e2 => ?_⟩
    · have dw := p_draw (d + 5) T G s hC0
      rw [e_De_runSeason_59]
      simp -implicitDefEqProofs (disch := first | assumption | omega | rfl | (simp only [z_up_eq, z_up_app, ↓reduceIte, Nat.reduceEqDiff]; omega)) only [z_lit0, z_lit1, z_lit2, z_litl, iI_add, iI_sub, iI_mul, iI_neg, iI_and, iI_or, iI_xor, iI_shl, iI_shr, iI_ushr, iI_div, iI_b, iI_c, iI_i2l, lI_l2i, lI_add, lI_sub, lI_mul, lI_neg, lI_div, lI_or, lI_and, lI_shl, lI_shr, nI_iI, lg_lt0, lg_gt0, lg_eq0, i_ne0', l_ne0', iI_lt, iI_le, iI_eq, lI_lt, lI_le, lI_eq, zb_0, zb_fit, zb_fit0, zb_fit1, i_one_zero, i_w_in, z_tb0, z_tb1, z_tb2, z_tb3, z_tb4, z_tb5, z_tb6, z_tb7, z_tb8, z_tbl, z_tu0, z_tu1, z_tu2, z_i_62, z_i_63, z_i_86, z_i_88, z_l_Y, z_ui_62, z_ui_63, z_ui_86, z_ui_88, z_ul_Y, z_sz_Y, z_sw_Y, iI_nat, z_ix_t, z_at, Int.add_zero, Int.sub_zero, Int.zero_add, Int.mul_zero, ne_eq, Bool.false_eq_true, Bool.true_eq_false, reduceCtorEq, eq_self, and_true, true_and, and_false, false_and, and_self, not_true_eq_false, not_false_eq_true, decide_true, decide_false, ↓reduceIte, Int.reduceEq, Int.reduceNe, Int.reduceLT, Int.reduceLE, Int.reduceAdd, Int.reduceSub, Int.reduceMul, Int.reduceNeg, Nat.reduceAdd, Nat.reduceEqDiff, Nat.reduceBEq, ↓z_x_eq, z_g_t, z_bI_s, z_bL_s, z_bR_s, z_bV_s, Int.cast_ofNat_Int, beq_self_eq_true, Bool.and_true, Bool.true_and, Bool.and_self, Bool.or_true, Bool.true_or, Bool.false_and, Bool.and_false, Bool.false_or, Bool.or_false, Bool.not_false, Bool.not_true, if_true, if_false, ite_true, ite_false, z_up_eq, z_up_app, z_ro_eq, hf, dw, k11]
      refine ok_cV (hf2 s) (fun s1 => ?_)
      exact i1 s1
    · have dm := dw_m hC
      have hd' := D_dr hC
      have an := p_anew (d + 7) T Gm s q.1
      rw [e] at an
      have q2 : m_q (z_up Gm 81 (m_dr A)) := by
        unfold m_q
        rw [z_up_eq, z_up_ne _ _ (show 83 ≠ 81 by omega), z_up_ne _ _ (show 80 ≠ 81 by omega)]
        refine ⟨hd'.1, ?_⟩
        have := q.2; rw [e] at this
        rw [show m_dr A 5 = A 5 from z_ro_ne _ _ (by omega)]; exact this
      have hm := hm2 (m_dr A) (z_up Gm 81 (m_dr A)) s hd' (z_up_eq _ _ _) q2 (by rw [z_up_ne _ _ (by omega), k83]; exact e2)
      rw [dm.2.2.1] at hm
      obtain ⟨v, τ, ev, rfl, A2, s2, rfl, hc2, h52⟩ := hm
      rw [z_up_up] at ev
      dsimp only at ev
      have h5 : A2 5 = A 5 := h52.trans (z_ro_ne _ _ (by omega))
      have q3 : m_q (z_up Gm 81 A2) := by
        unfold m_q
        rw [z_up_eq, z_up_ne _ _ (show 83 ≠ 81 by omega), z_up_ne _ _ (show 80 ≠ 81 by omega), h5]
        exact ⟨hc2.1, by have := q.2; rw [e] at this; exact this⟩
      have i4 := i3 A2 (z_up Gm 81 A2) s2 hc2 (z_up_eq _ _ _) q3 (by rw [z_up_ne _ _ (by omega), e2]; exact (hr2' 83 (by omega)).symm)
      rw [e_M_season_50]
      simp -implicitDefEqProofs (disch := first | assumption | omega | rfl | (simp only [z_up_eq, z_up_app, ↓reduceIte, Nat.reduceEqDiff]; omega)) only [z_lit0, z_lit1, z_lit2, z_litl, iI_add, iI_sub, iI_mul, iI_neg, iI_and, iI_or, iI_xor, iI_shl, iI_shr, iI_ushr, iI_div, iI_b, iI_c, iI_i2l, lI_l2i, lI_add, lI_sub, lI_mul, lI_neg, lI_div, lI_or, lI_and, lI_shl, lI_shr, nI_iI, lg_lt0, lg_gt0, lg_eq0, i_ne0', l_ne0', iI_lt, iI_le, iI_eq, lI_lt, lI_le, lI_eq, zb_0, zb_fit, zb_fit0, zb_fit1, i_one_zero, i_w_in, z_tb0, z_tb1, z_tb2, z_tb3, z_tb4, z_tb5, z_tb6, z_tb7, z_tb8, z_tbl, z_tu0, z_tu1, z_tu2, z_i_62, z_i_63, z_i_86, z_i_88, z_l_Y, z_ui_62, z_ui_63, z_ui_86, z_ui_88, z_ul_Y, z_sz_Y, z_sw_Y, iI_nat, z_ix_t, z_at, Int.add_zero, Int.sub_zero, Int.zero_add, Int.mul_zero, ne_eq, Bool.false_eq_true, Bool.true_eq_false, reduceCtorEq, eq_self, and_true, true_and, and_false, false_and, and_self, not_true_eq_false, not_false_eq_true, decide_true, decide_false, ↓reduceIte, Int.reduceEq, Int.reduceNe, Int.reduceLT, Int.reduceLE, Int.reduceAdd, Int.reduceSub, Int.reduceMul, Int.reduceNeg, Nat.reduceAdd, Nat.reduceEqDiff, Nat.reduceBEq, ↓z_x_eq, z_g_t, z_bI_s, z_bL_s, z_bR_s, z_bV_s, Int.cast_ofNat_Int, beq_self_eq_true, Bool.and_true, Bool.true_and, Bool.and_self, Bool.or_true, Bool.true_or, Bool.false_and, Bool.and_false, Bool.false_or, Bool.or_false, Bool.not_false, Bool.not_true, if_true, if_false, ite_true, ite_false, z_up_eq, z_up_app, z_ro_eq, hf, e, an, ev]
      refine ok_mono i4 ?_
      rintro y τ ⟨rfl, A', s', rfl, hc', h5'⟩
      exact ⟨rfl, A', s', by rw [z_up_up], hc', h5'.trans h5⟩
theorem d_season (d : Nat) {T : ZT} {G : ZG} (hE : ∃ A, c_nw A G ∧ t_okA T A G) (hH : i_in (G 80 24) ∧ i_in (G 80 25)) {sd n : Int} (hs : i_in sd) (hn : i_in n) : z_dd False T G (fun σ => z_call (d + 7) 181 [vr 65, vi (iI sd), vi (iI n)] σ) (fun σ => z_call (d + 9) 184 [vr 80, vi (iI sd), vi (iI n)] σ) := by
  obtain ⟨A0, hC0, hT0⟩ := hE
  have q0 := (dw_h hC0).2.1
  have m10 := hC0.1.2.1
  by_cases c1 : (0 ≤ sd ∧ sd ≤ 9999) ∧ (1 ≤ n ∧ n ≤ 40) ∧ G 11 3 ≠ 0
  · obtain ⟨c1, c2, c3⟩ := c1
    have c3' : (G 11 3 = 0) = False := eq_false c3
    obtain ⟨W, ek, hW⟩ := p_ckeepA (d + 3) T G (dw_b7 hC0).1 (dw_b7 hC0).2
    have hE1 : ∃ A1, c_nw A1 (z_up (z_up G 25 (z_ro (z_ro (G 25) 1 ((G 25 1 + 1) % 30)) 2 (if G 25 2 < 30 then G 25 2 + 1 else G 25 2))) 26 W) ∧ A1 5 = A0 5 := by
      obtain ⟨B, R, em, k1, k2⟩ := p_mkeep 0 T (z_up G 81 A0) (fun _ _ => 0, fun _ _ => 0) (by rw [z_up_eq]; exact hC0.1.2.2.2.2.2.2.2.1)
      rw [z_up_eq] at k2
      have hK := K_keep hC0 hW k1 k2
      refine ⟨_, hK, ?_⟩
      have := (dw_h hK).2.2.2.1
      rw [z_up_ne _ _ (by omega), z_up_ne _ _ (by omega)] at this
      rw [← this]; exact (dw_h hC0).2.2.2.1
    obtain ⟨A1, hC1, hA5⟩ := hE1
    have gne : ∀ r, r ≠ 25 → r ≠ 26 → z_up (z_up G 25 (z_ro (z_ro (G 25) 1 ((G 25 1 + 1) % 30)) 2 (if G 25 2 < 30 then G 25 2 + 1 else G 25 2))) 26 W r = G r := fun r a b => by rw [z_up_ne _ _ b, z_up_ne _ _ a]
    have hKK := fun {A B R : Int → Int} (h1 : c_nw A G) (h2 : k_md B R (186 + 65 * B 7)) (h3 : (B = A ∧ A 7 < 30) ∨ (k_sh A B ∧ A 7 = 30)) => K_keep h1 hW h2 h3
    generalize z_up (z_up G 25 (z_ro (z_ro (G 25) 1 ((G 25 1 + 1) % 30)) 2 (if G 25 2 < 30 then G 25 2 + 1 else G 25 2))) 26 W = G1 at *
    have hX1 := D_x hC1 (v := sd * 3 + 71) (by omega)
    have hT1 : t_okA T (z_ro A1 4 (sd * 3 + 71)) (z_up G1 20 (z_ro (G1 20) 4 (sd * 3 + 71))) := t_okA_fr hT0 (by rw [z_ro_ne _ _ (by omega)]; exact hA5) (by rw [z_up_ne _ _ (by omega)]; exact gne 83 (by omega) (by omega)) (fun r a => by rw [z_up_ne _ _ (by omega)]; exact gne r (by omega) (by omega))
    obtain ⟨G', i1, i2, i3⟩ := p_sea d T (N := n) (by omega) n.toNat 0 (z_up G1 20 (z_ro (G1 20) 4 (sd * 3 + 71))) (by omega) (by omega) ⟨_, hX1, hT1⟩ (by rw [z_up_ne _ _ (by omega), gne 11 (by omega) (by omega)]; exact c3) (by rw [z_up_ne _ _ (by omega), gne 80 (by omega) (by omega)]; exact hH)
    refine ⟨iI (G' 20 3), G', fun x => x.elim, fun s => ?_, fun r a => ?_, fun A Gm s hC e q e2 => ?_⟩
    · dsimp only
      rw [e_De_runSeason]
      simp -implicitDefEqProofs (disch := first | assumption | omega | rfl | (simp only [z_up_eq, z_up_app, ↓reduceIte, Nat.reduceEqDiff]; omega)) only [z_lit0, z_lit1, z_lit2, z_litl, iI_add, iI_sub, iI_mul, iI_neg, iI_and, iI_or, iI_xor, iI_shl, iI_shr, iI_ushr, iI_div, iI_b, iI_c, iI_i2l, lI_l2i, lI_add, lI_sub, lI_mul, lI_neg, lI_div, lI_or, lI_and, lI_shl, lI_shr, nI_iI, lg_lt0, lg_gt0, lg_eq0, i_ne0', l_ne0', iI_lt, iI_le, iI_eq, lI_lt, lI_le, lI_eq, zb_0, zb_fit, zb_fit0, zb_fit1, i_one_zero, i_w_in, z_tb0, z_tb1, z_tb2, z_tb3, z_tb4, z_tb5, z_tb6, z_tb7, z_tb8, z_tbl, z_tu0, z_tu1, z_tu2, z_i_62, z_i_63, z_i_86, z_i_88, z_l_Y, z_ui_62, z_ui_63, z_ui_86, z_ui_88, z_ul_Y, z_sz_Y, z_sw_Y, iI_nat, z_ix_t, z_at, Int.add_zero, Int.sub_zero, Int.zero_add, Int.mul_zero, ne_eq, Bool.false_eq_true, Bool.true_eq_false, reduceCtorEq, eq_self, and_true, true_and, and_false, false_and, and_self, not_true_eq_false, not_false_eq_true, decide_true, decide_false, ↓reduceIte, Int.reduceEq, Int.reduceNe, Int.reduceLT, Int.reduceLE, Int.reduceAdd, Int.reduceSub, Int.reduceMul, Int.reduceNeg, Nat.reduceAdd, Nat.reduceEqDiff, Nat.reduceBEq, ↓z_x_eq, z_g_t, z_bI_s, z_bL_s, z_bR_s, z_bV_s, Int.cast_ofNat_Int, beq_self_eq_true, Bool.and_true, Bool.true_and, Bool.and_self, Bool.or_true, Bool.true_or, Bool.false_and, Bool.and_false, Bool.false_or, Bool.or_false, Bool.not_false, Bool.not_true, if_true, if_false, ite_true, ite_false, z_up_eq, z_up_app, z_ro_eq, p_within, c1, c2, zb_t, c3', ek]
      exact i1 s
    · rw [i2 r a, z_up_ne _ _ (by omega), gne r (by omega) (by omega)]
    · have q1 := (dw_h hC).2.1
      have m1 := hC.1.2.1
      have m7 := hC.1.2.2.2.2.2.2.2.1
      have c3A : (A 1 = 0) = False := by rw [← q1]; exact c3'
      obtain ⟨B, R, em, k1, k2⟩ := p_mkeep (d + 6) T Gm s (by rw [e]; exact m7)
      rw [e] at k2
      have hK := hKK hC k1 k2
      have a5 : z_ro R 7 (B 7 + 1) 5 = A 5 := by
        have := (dw_h hK).2.2.2.1
        rw [gne 11 (by omega) (by omega)] at this
        rw [← this]; exact (dw_h hC).2.2.2.1
      generalize z_ro R 7 (B 7 + 1) = A2 at *
      have hX2 := D_x hK (v := sd * 3 + 71) (by omega)
      have h5 : z_ro A2 4 (sd * 3 + 71) 5 = A 5 := by rw [z_ro_ne _ _ (by omega)]; exact a5
      have q3 : m_q (z_up Gm 81 (z_ro A2 4 (sd * 3 + 71))) := by
        unfold m_q
        rw [z_up_eq, z_up_ne _ _ (show 83 ≠ 81 by omega), z_up_ne _ _ (show 80 ≠ 81 by omega), h5]
        exact ⟨hX2.1, by have := q.2; rw [e] at this; exact this⟩
      have i4 := i3 _ (z_up Gm 81 (z_ro A2 4 (sd * 3 + 71))) s hX2 (z_up_eq _ _ _) q3 (by rw [z_up_ne _ _ (by omega), z_up_ne _ _ (by omega), gne 83 (by omega) (by omega)]; exact e2)
      dsimp only
      rw [e_M_season]
      simp -implicitDefEqProofs (disch := first | assumption | omega | rfl | (simp only [z_up_eq, z_up_app, ↓reduceIte, Nat.reduceEqDiff]; omega)) only [z_lit0, z_lit1, z_lit2, z_litl, iI_add, iI_sub, iI_mul, iI_neg, iI_and, iI_or, iI_xor, iI_shl, iI_shr, iI_ushr, iI_div, iI_b, iI_c, iI_i2l, lI_l2i, lI_add, lI_sub, lI_mul, lI_neg, lI_div, lI_or, lI_and, lI_shl, lI_shr, nI_iI, lg_lt0, lg_gt0, lg_eq0, i_ne0', l_ne0', iI_lt, iI_le, iI_eq, lI_lt, lI_le, lI_eq, zb_0, zb_fit, zb_fit0, zb_fit1, i_one_zero, i_w_in, z_tb0, z_tb1, z_tb2, z_tb3, z_tb4, z_tb5, z_tb6, z_tb7, z_tb8, z_tbl, z_tu0, z_tu1, z_tu2, z_i_62, z_i_63, z_i_86, z_i_88, z_l_Y, z_ui_62, z_ui_63, z_ui_86, z_ui_88, z_ul_Y, z_sz_Y, z_sw_Y, iI_nat, z_ix_t, z_at, Int.add_zero, Int.sub_zero, Int.zero_add, Int.mul_zero, ne_eq, Bool.false_eq_true, Bool.true_eq_false, reduceCtorEq, eq_self, and_true, true_and, and_false, false_and, and_self, not_true_eq_false, not_false_eq_true, decide_true, decide_false, ↓reduceIte, Int.reduceEq, Int.reduceNe, Int.reduceLT, Int.reduceLE, Int.reduceAdd, Int.reduceSub, Int.reduceMul, Int.reduceNeg, Nat.reduceAdd, Nat.reduceEqDiff, Nat.reduceBEq, ↓z_x_eq, z_g_t, z_bI_s, z_bL_s, z_bR_s, z_bV_s, Int.cast_ofNat_Int, beq_self_eq_true, Bool.and_true, Bool.true_and, Bool.and_self, Bool.or_true, Bool.true_or, Bool.false_and, Bool.and_false, Bool.false_or, Bool.or_false, Bool.not_false, Bool.not_true, if_true, if_false, ite_true, ite_false, z_up_eq, z_up_app, z_ro_eq, p_isIn, c1, c2, zb_t, e, c3A, em, z_up_up]
      refine ok_mono i4 ?_
      rintro y τ ⟨rfl, A', s', rfl, hc', h5'⟩
      exact ⟨rfl, A', s', by rw [z_up_up], hc', h5'.trans h5⟩
  · refine dd_same (iI (-1)) (fun x => x.elim) (fun s => ?_) (fun A Gm s hC e q e2 => ?_)
    · rw [e_De_runSeason]
      by_cases d1 : 0 ≤ sd ∧ sd ≤ 9999
      · by_cases d2 : 1 ≤ n ∧ n ≤ 40
        · have d3 : (G 11 3 = 0) = True := eq_true (by
            by_cases f : G 11 3 = 0
            · exact f
            · exact absurd ⟨d1, d2, f⟩ c1)
          simp -implicitDefEqProofs (disch := first | assumption | omega | rfl | (simp only [z_up_eq, z_up_app, ↓reduceIte, Nat.reduceEqDiff]; omega)) only [z_lit0, z_lit1, z_lit2, z_litl, iI_add, iI_sub, iI_mul, iI_neg, iI_and, iI_or, iI_xor, iI_shl, iI_shr, iI_ushr, iI_div, iI_b, iI_c, iI_i2l, lI_l2i, lI_add, lI_sub, lI_mul, lI_neg, lI_div, lI_or, lI_and, lI_shl, lI_shr, nI_iI, lg_lt0, lg_gt0, lg_eq0, i_ne0', l_ne0', iI_lt, iI_le, iI_eq, lI_lt, lI_le, lI_eq, zb_0, zb_fit, zb_fit0, zb_fit1, i_one_zero, i_w_in, z_tb0, z_tb1, z_tb2, z_tb3, z_tb4, z_tb5, z_tb6, z_tb7, z_tb8, z_tbl, z_tu0, z_tu1, z_tu2, z_i_62, z_i_63, z_i_86, z_i_88, z_l_Y, z_ui_62, z_ui_63, z_ui_86, z_ui_88, z_ul_Y, z_sz_Y, z_sw_Y, iI_nat, z_ix_t, z_at, Int.add_zero, Int.sub_zero, Int.zero_add, Int.mul_zero, ne_eq, Bool.false_eq_true, Bool.true_eq_false, reduceCtorEq, eq_self, and_true, true_and, and_false, false_and, and_self, not_true_eq_false, not_false_eq_true, decide_true, decide_false, ↓reduceIte, Int.reduceEq, Int.reduceNe, Int.reduceLT, Int.reduceLE, Int.reduceAdd, Int.reduceSub, Int.reduceMul, Int.reduceNeg, Nat.reduceAdd, Nat.reduceEqDiff, Nat.reduceBEq, ↓z_x_eq, z_g_t, z_bI_s, z_bL_s, z_bR_s, z_bV_s, Int.cast_ofNat_Int, beq_self_eq_true, Bool.and_true, Bool.true_and, Bool.and_self, Bool.or_true, Bool.true_or, Bool.false_and, Bool.and_false, Bool.false_or, Bool.or_false, Bool.not_false, Bool.not_true, if_true, if_false, ite_true, ite_false, z_up_eq, z_up_app, z_ro_eq, p_within, d1, d2, zb_t, d3]
          exact ok_q
        · simp -implicitDefEqProofs (disch := first | assumption | omega | rfl | (simp only [z_up_eq, z_up_app, ↓reduceIte, Nat.reduceEqDiff]; omega)) only [z_lit0, z_lit1, z_lit2, z_litl, iI_add, iI_sub, iI_mul, iI_neg, iI_and, iI_or, iI_xor, iI_shl, iI_shr, iI_ushr, iI_div, iI_b, iI_c, iI_i2l, lI_l2i, lI_add, lI_sub, lI_mul, lI_neg, lI_div, lI_or, lI_and, lI_shl, lI_shr, nI_iI, lg_lt0, lg_gt0, lg_eq0, i_ne0', l_ne0', iI_lt, iI_le, iI_eq, lI_lt, lI_le, lI_eq, zb_0, zb_fit, zb_fit0, zb_fit1, i_one_zero, i_w_in, z_tb0, z_tb1, z_tb2, z_tb3, z_tb4, z_tb5, z_tb6, z_tb7, z_tb8, z_tbl, z_tu0, z_tu1, z_tu2, z_i_62, z_i_63, z_i_86, z_i_88, z_l_Y, z_ui_62, z_ui_63, z_ui_86, z_ui_88, z_ul_Y, z_sz_Y, z_sw_Y, iI_nat, z_ix_t, z_at, Int.add_zero, Int.sub_zero, Int.zero_add, Int.mul_zero, ne_eq, Bool.false_eq_true, Bool.true_eq_false, reduceCtorEq, eq_self, and_true, true_and, and_false, false_and, and_self, not_true_eq_false, not_false_eq_true, decide_true, decide_false, ↓reduceIte, Int.reduceEq, Int.reduceNe, Int.reduceLT, Int.reduceLE, Int.reduceAdd, Int.reduceSub, Int.reduceMul, Int.reduceNeg, Nat.reduceAdd, Nat.reduceEqDiff, Nat.reduceBEq, ↓z_x_eq, z_g_t, z_bI_s, z_bL_s, z_bR_s, z_bV_s, Int.cast_ofNat_Int, beq_self_eq_true, Bool.and_true, Bool.true_and, Bool.and_self, Bool.or_true, Bool.true_or, Bool.false_and, Bool.and_false, Bool.false_or, Bool.or_false, Bool.not_false, Bool.not_true, if_true, if_false, ite_true, ite_false, z_up_eq, z_up_app, z_ro_eq, p_within, d1, d2, zb_t, zb_f]
          exact ok_q
      · simp -implicitDefEqProofs (disch := first | assumption | omega | rfl | (simp only [z_up_eq, z_up_app, ↓reduceIte, Nat.reduceEqDiff]; omega)) only [z_lit0, z_lit1, z_lit2, z_litl, iI_add, iI_sub, iI_mul, iI_neg, iI_and, iI_or, iI_xor, iI_shl, iI_shr, iI_ushr, iI_div, iI_b, iI_c, iI_i2l, lI_l2i, lI_add, lI_sub, lI_mul, lI_neg, lI_div, lI_or, lI_and, lI_shl, lI_shr, nI_iI, lg_lt0, lg_gt0, lg_eq0, i_ne0', l_ne0', iI_lt, iI_le, iI_eq, lI_lt, lI_le, lI_eq, zb_0, zb_fit, zb_fit0, zb_fit1, i_one_zero, i_w_in, z_tb0, z_tb1, z_tb2, z_tb3, z_tb4, z_tb5, z_tb6, z_tb7, z_tb8, z_tbl, z_tu0, z_tu1, z_tu2, z_i_62, z_i_63, z_i_86, z_i_88, z_l_Y, z_ui_62, z_ui_63, z_ui_86, z_ui_88, z_ul_Y, z_sz_Y, z_sw_Y, iI_nat, z_ix_t, z_at, Int.add_zero, Int.sub_zero, Int.zero_add, Int.mul_zero, ne_eq, Bool.false_eq_true, Bool.true_eq_false, reduceCtorEq, eq_self, and_true, true_and, and_false, false_and, and_self, not_true_eq_false, not_false_eq_true, decide_true, decide_false, ↓reduceIte, Int.reduceEq, Int.reduceNe, Int.reduceLT, Int.reduceLE, Int.reduceAdd, Int.reduceSub, Int.reduceMul, Int.reduceNeg, Nat.reduceAdd, Nat.reduceEqDiff, Nat.reduceBEq, ↓z_x_eq, z_g_t, z_bI_s, z_bL_s, z_bR_s, z_bV_s, Int.cast_ofNat_Int, beq_self_eq_true, Bool.and_true, Bool.true_and, Bool.and_self, Bool.or_true, Bool.true_or, Bool.false_and, Bool.and_false, Bool.false_or, Bool.or_false, Bool.not_false, Bool.not_true, if_true, if_false, ite_true, ite_false, z_up_eq, z_up_app, z_ro_eq, p_within, d1, zb_f]
        exact ok_q
    · have q1 := (dw_h hC).2.1
      have m1 := hC.1.2.1
      rw [q1] at c1
      rw [e_M_season]
      by_cases d1 : 0 ≤ sd ∧ sd ≤ 9999
      · by_cases d2 : 1 ≤ n ∧ n ≤ 40
        · have d3 : (A 1 = 0) = True := eq_true (by
            by_cases f : A 1 = 0
            · exact f
            · exact absurd ⟨d1, d2, f⟩ c1)
          simp -implicitDefEqProofs (disch := first | assumption | omega | rfl | (simp only [z_up_eq, z_up_app, ↓reduceIte, Nat.reduceEqDiff]; omega)) only [z_lit0, z_lit1, z_lit2, z_litl, iI_add, iI_sub, iI_mul, iI_neg, iI_and, iI_or, iI_xor, iI_shl, iI_shr, iI_ushr, iI_div, iI_b, iI_c, iI_i2l, lI_l2i, lI_add, lI_sub, lI_mul, lI_neg, lI_div, lI_or, lI_and, lI_shl, lI_shr, nI_iI, lg_lt0, lg_gt0, lg_eq0, i_ne0', l_ne0', iI_lt, iI_le, iI_eq, lI_lt, lI_le, lI_eq, zb_0, zb_fit, zb_fit0, zb_fit1, i_one_zero, i_w_in, z_tb0, z_tb1, z_tb2, z_tb3, z_tb4, z_tb5, z_tb6, z_tb7, z_tb8, z_tbl, z_tu0, z_tu1, z_tu2, z_i_62, z_i_63, z_i_86, z_i_88, z_l_Y, z_ui_62, z_ui_63, z_ui_86, z_ui_88, z_ul_Y, z_sz_Y, z_sw_Y, iI_nat, z_ix_t, z_at, Int.add_zero, Int.sub_zero, Int.zero_add, Int.mul_zero, ne_eq, Bool.false_eq_true, Bool.true_eq_false, reduceCtorEq, eq_self, and_true, true_and, and_false, false_and, and_self, not_true_eq_false, not_false_eq_true, decide_true, decide_false, ↓reduceIte, Int.reduceEq, Int.reduceNe, Int.reduceLT, Int.reduceLE, Int.reduceAdd, Int.reduceSub, Int.reduceMul, Int.reduceNeg, Nat.reduceAdd, Nat.reduceEqDiff, Nat.reduceBEq, ↓z_x_eq, z_g_t, z_bI_s, z_bL_s, z_bR_s, z_bV_s, Int.cast_ofNat_Int, beq_self_eq_true, Bool.and_true, Bool.true_and, Bool.and_self, Bool.or_true, Bool.true_or, Bool.false_and, Bool.and_false, Bool.false_or, Bool.or_false, Bool.not_false, Bool.not_true, if_true, if_false, ite_true, ite_false, z_up_eq, z_up_app, z_ro_eq, p_isIn, d1, d2, zb_t, e, d3]
          exact ok_q
        · simp -implicitDefEqProofs (disch := first | assumption | omega | rfl | (simp only [z_up_eq, z_up_app, ↓reduceIte, Nat.reduceEqDiff]; omega)) only [z_lit0, z_lit1, z_lit2, z_litl, iI_add, iI_sub, iI_mul, iI_neg, iI_and, iI_or, iI_xor, iI_shl, iI_shr, iI_ushr, iI_div, iI_b, iI_c, iI_i2l, lI_l2i, lI_add, lI_sub, lI_mul, lI_neg, lI_div, lI_or, lI_and, lI_shl, lI_shr, nI_iI, lg_lt0, lg_gt0, lg_eq0, i_ne0', l_ne0', iI_lt, iI_le, iI_eq, lI_lt, lI_le, lI_eq, zb_0, zb_fit, zb_fit0, zb_fit1, i_one_zero, i_w_in, z_tb0, z_tb1, z_tb2, z_tb3, z_tb4, z_tb5, z_tb6, z_tb7, z_tb8, z_tbl, z_tu0, z_tu1, z_tu2, z_i_62, z_i_63, z_i_86, z_i_88, z_l_Y, z_ui_62, z_ui_63, z_ui_86, z_ui_88, z_ul_Y, z_sz_Y, z_sw_Y, iI_nat, z_ix_t, z_at, Int.add_zero, Int.sub_zero, Int.zero_add, Int.mul_zero, ne_eq, Bool.false_eq_true, Bool.true_eq_false, reduceCtorEq, eq_self, and_true, true_and, and_false, false_and, and_self, not_true_eq_false, not_false_eq_true, decide_true, decide_false, ↓reduceIte, Int.reduceEq, Int.reduceNe, Int.reduceLT, Int.reduceLE, Int.reduceAdd, Int.reduceSub, Int.reduceMul, Int.reduceNeg, Nat.reduceAdd, Nat.reduceEqDiff, Nat.reduceBEq, ↓z_x_eq, z_g_t, z_bI_s, z_bL_s, z_bR_s, z_bV_s, Int.cast_ofNat_Int, beq_self_eq_true, Bool.and_true, Bool.true_and, Bool.and_self, Bool.or_true, Bool.true_or, Bool.false_and, Bool.and_false, Bool.false_or, Bool.or_false, Bool.not_false, Bool.not_true, if_true, if_false, ite_true, ite_false, z_up_eq, z_up_app, z_ro_eq, p_isIn, d1, d2, zb_t, zb_f]
          exact ok_q
      · simp -implicitDefEqProofs (disch := first | assumption | omega | rfl | (simp only [z_up_eq, z_up_app, ↓reduceIte, Nat.reduceEqDiff]; omega)) only [z_lit0, z_lit1, z_lit2, z_litl, iI_add, iI_sub, iI_mul, iI_neg, iI_and, iI_or, iI_xor, iI_shl, iI_shr, iI_ushr, iI_div, iI_b, iI_c, iI_i2l, lI_l2i, lI_add, lI_sub, lI_mul, lI_neg, lI_div, lI_or, lI_and, lI_shl, lI_shr, nI_iI, lg_lt0, lg_gt0, lg_eq0, i_ne0', l_ne0', iI_lt, iI_le, iI_eq, lI_lt, lI_le, lI_eq, zb_0, zb_fit, zb_fit0, zb_fit1, i_one_zero, i_w_in, z_tb0, z_tb1, z_tb2, z_tb3, z_tb4, z_tb5, z_tb6, z_tb7, z_tb8, z_tbl, z_tu0, z_tu1, z_tu2, z_i_62, z_i_63, z_i_86, z_i_88, z_l_Y, z_ui_62, z_ui_63, z_ui_86, z_ui_88, z_ul_Y, z_sz_Y, z_sw_Y, iI_nat, z_ix_t, z_at, Int.add_zero, Int.sub_zero, Int.zero_add, Int.mul_zero, ne_eq, Bool.false_eq_true, Bool.true_eq_false, reduceCtorEq, eq_self, and_true, true_and, and_false, false_and, and_self, not_true_eq_false, not_false_eq_true, decide_true, decide_false, ↓reduceIte, Int.reduceEq, Int.reduceNe, Int.reduceLT, Int.reduceLE, Int.reduceAdd, Int.reduceSub, Int.reduceMul, Int.reduceNeg, Nat.reduceAdd, Nat.reduceEqDiff, Nat.reduceBEq, ↓z_x_eq, z_g_t, z_bI_s, z_bL_s, z_bR_s, z_bV_s, Int.cast_ofNat_Int, beq_self_eq_true, Bool.and_true, Bool.true_and, Bool.and_self, Bool.or_true, Bool.true_or, Bool.false_and, Bool.and_false, Bool.false_or, Bool.or_false, Bool.not_false, Bool.not_true, if_true, if_false, ite_true, ite_false, z_up_eq, z_up_app, z_ro_eq, p_isIn, d1, zb_f]
        exact ok_q
theorem t_season (d : Nat) {S0 : ZG} {c : Int} {T : ZT} {G : ZG} (h : z_I S0 c T G) (hc : c < 600) {p w : Int} (hp : i_in p) (hw : i_in w) : z_pwr S0 c T G (fun σ => z_call (d + 8) 182 [vr 10, vi (iI p), vi (iI w)] σ) (fun σ => z_call (d + 9) 184 [vr 80, vi (iI p), vi (iI w)] σ) := by
  have ht := h.2.2.2.1
  have hq := I_mq h
  refine pr_dd h hc (dd_wr _ (fun s a G' s' _ e => ?_) (d_season d ⟨_, h.1, ht.1, ht.2.1⟩ ⟨hq.2.2.1, hq.2.2.2⟩ hp hw))
  rw [e_B_season]
  simp -implicitDefEqProofs (disch := first | assumption | omega | rfl | (simp only [z_up_eq, z_up_app, ↓reduceIte, Nat.reduceEqDiff]; omega)) only [z_lit0, z_lit1, z_lit2, z_litl, iI_add, iI_sub, iI_mul, iI_neg, iI_and, iI_or, iI_xor, iI_shl, iI_shr, iI_ushr, iI_div, iI_b, iI_c, iI_i2l, lI_l2i, lI_add, lI_sub, lI_mul, lI_neg, lI_div, lI_or, lI_and, lI_shl, lI_shr, nI_iI, lg_lt0, lg_gt0, lg_eq0, i_ne0', l_ne0', iI_lt, iI_le, iI_eq, lI_lt, lI_le, lI_eq, zb_0, zb_fit, zb_fit0, zb_fit1, i_one_zero, i_w_in, z_tb0, z_tb1, z_tb2, z_tb3, z_tb4, z_tb5, z_tb6, z_tb7, z_tb8, z_tbl, z_tu0, z_tu1, z_tu2, z_i_62, z_i_63, z_i_86, z_i_88, z_l_Y, z_ui_62, z_ui_63, z_ui_86, z_ui_88, z_ul_Y, z_sz_Y, z_sw_Y, iI_nat, z_ix_t, z_at, Int.add_zero, Int.sub_zero, Int.zero_add, Int.mul_zero, ne_eq, Bool.false_eq_true, Bool.true_eq_false, reduceCtorEq, eq_self, and_true, true_and, and_false, false_and, and_self, not_true_eq_false, not_false_eq_true, decide_true, decide_false, ↓reduceIte, Int.reduceEq, Int.reduceNe, Int.reduceLT, Int.reduceLE, Int.reduceAdd, Int.reduceSub, Int.reduceMul, Int.reduceNeg, Nat.reduceAdd, Nat.reduceEqDiff, Nat.reduceBEq, ↓z_x_eq, z_g_t, z_bI_s, z_bL_s, z_bR_s, z_bV_s, Int.cast_ofNat_Int, beq_self_eq_true, Bool.and_true, Bool.true_and, Bool.and_self, Bool.or_true, Bool.true_or, Bool.false_and, Bool.and_false, Bool.false_or, Bool.or_false, Bool.not_false, Bool.not_true, if_true, if_false, ite_true, ite_false, z_up_eq, z_up_app, z_ro_eq, e]

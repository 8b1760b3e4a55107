/-! THE PURE PART, 39: undo, the class's side -/
/-- the class's rows behind a step taken back -/
def k_bk (G : ZG) (n y : Int) : ZG := z_up (z_up (z_up (z_up G 20 (z_ro (z_ro (z_ro (z_ro (G 20) 2 (G 26 (y + 20))) 3 (G 26 (y + 20 + 1))) 4 (G 26 (y + 20 + 2))) 5 (G 26 (y + 20 + 3)))) 21 (z_cpr (G 26) (G 21) y 0 10)) 22 (z_cpr (G 26) (G 22) (y + 10) 0 10)) 25 (z_ro (z_ro (G 25) 2 (G 25 2 - 1)) 1 n)
theorem p_ctake (d : Nat) (T : ZT) (G : ZG) (s : ZG × ZG) {n : Int} (hn : 0 ≤ G 25 1 ∧ G 25 1 < 30) (hc : 0 < G 25 2 ∧ G 25 2 ≤ 30) (hN : n = (G 25 1 + 29) % 30) (hr : ∀ k, 0 ≤ k → k < 4 → i_in (G 26 (n * 24 + 20 + k))) : z_call (d + 3) 186 [vr 25, vr 20] (z_Y T G s) = some (vi (iI 1), z_Y T (k_bk G n (n * 24)) s) := by
  have n0 : 0 ≤ n ∧ n < 30 := by omega
  have r30 : G 25 1 + 30 - 1 - i_div (G 25 1 + 30 - 1) 30 * 30 = n := by
    have := i_rem30 (x := G 25 1 + 30 - 1) (by omega)
    rw [this]; omega
  have e1 : z_ro (G 25) 2 (G 25 2 - 1) 1 = G 25 1 := z_ro_ne _ _ (by omega)
  have nz : (G 25 2 = 0) = False := eq_false (by omega)
  generalize hY : n * 24 = y at *
  have q1 := p_copy d T (z_up G 25 (z_ro (z_ro (G 25) 2 (G 25 2 - 1)) 1 n)) s (a := 26) (b := 21) (la := 720) (lb := 10) (i := y) (j := 0) (n := 10) (fun _ _ => ⟨rfl, rfl⟩) (fun _ _ => ⟨rfl, rfl⟩) (by omega) (by omega) rfl rfl rfl (by omega)
  have q2 := p_copy d T (z_up (z_up G 25 (z_ro (z_ro (G 25) 2 (G 25 2 - 1)) 1 n)) 21 (z_cpr (G 26) (G 21) y 0 10)) s (a := 26) (b := 22) (la := 720) (lb := 10) (i := y + 10) (j := 0) (n := 10) (fun _ _ => ⟨rfl, rfl⟩) (fun _ _ => ⟨rfl, rfl⟩) (by omega) (by omega) rfl rfl rfl (by omega)
  rw [z_up_ne _ _ (show 26 ≠ 25 by omega), z_up_ne _ _ (show 21 ≠ 25 by omega), z_up_cm _ _ _ (show 21 < 25 by omega)] at q1
  rw [z_up_cm _ _ _ (show 21 < 25 by omega), z_up_ne _ _ (show 26 ≠ 25 by omega), z_up_ne _ _ (show 26 ≠ 21 by omega), z_up_ne _ _ (show 22 ≠ 25 by omega), z_up_ne _ _ (show 22 ≠ 21 by omega), z_up_cm _ _ _ (show 22 < 25 by omega)] at q2
  have h0 := hr 0 (by omega) (by omega)
  have h1 := hr 1 (by omega) (by omega)
  have h2 := hr 2 (by omega) (by omega)
  have h3 := hr 3 (by omega) (by omega)
  rw [Int.add_zero] at h0
  unfold k_bk
  rw [e_St_takeBack]
  simp -implicitDefEqProofs (disch := first | assumption | omega | rfl | (simp only [z_up_eq, z_up_app, ↓reduceIte, Nat.reduceEqDiff]; omega)) only [z_lit0, z_lit1, z_lit2, z_litl, iI_add, iI_sub, iI_mul, iI_neg, iI_and, iI_or, iI_xor, iI_shl, iI_shr, iI_ushr, iI_div, iI_b, iI_c, iI_i2l, lI_l2i, lI_add, lI_sub, lI_mul, lI_neg, lI_div, lI_or, lI_and, lI_shl, lI_shr, nI_iI, lg_lt0, lg_gt0, lg_eq0, i_ne0', l_ne0', iI_lt, iI_le, iI_eq, lI_lt, lI_le, lI_eq, zb_0, zb_fit, zb_fit0, zb_fit1, i_one_zero, i_w_in, z_tb0, z_tb1, z_tb2, z_tb3, z_tb4, z_tb5, z_tb6, z_tb7, z_tb8, z_tbl, z_tu0, z_tu1, z_tu2, z_i_62, z_i_63, z_i_86, z_i_88, z_l_Y, z_ui_62, z_ui_63, z_ui_86, z_ui_88, z_ul_Y, z_sz_Y, z_sw_Y, iI_nat, z_ix_t, z_at, Int.add_zero, Int.sub_zero, Int.zero_add, Int.mul_zero, ne_eq, Bool.false_eq_true, Bool.true_eq_false, reduceCtorEq, eq_self, and_true, true_and, and_false, false_and, and_self, not_true_eq_false, not_false_eq_true, decide_true, decide_false, ↓reduceIte, Int.reduceEq, Int.reduceNe, Int.reduceLT, Int.reduceLE, Int.reduceAdd, Int.reduceSub, Int.reduceMul, Int.reduceNeg, Nat.reduceAdd, Nat.reduceEqDiff, Nat.reduceBEq, ↓z_x_eq, z_g_t, z_bI_s, z_bL_s, z_bR_s, z_bV_s, Int.cast_ofNat_Int, beq_self_eq_true, Bool.and_true, Bool.true_and, Bool.and_self, Bool.or_true, Bool.true_or, Bool.false_and, Bool.and_false, Bool.false_or, Bool.or_false, Bool.not_false, Bool.not_true, if_true, if_false, ite_true, ite_false, z_up_eq, z_up_app, z_ro_eq, nz, e1, r30, hY, e_Mo_readFrom, q1, q2, z_up_up, z_up_cm]

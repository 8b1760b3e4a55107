/-! THE PURE PART, 41: undo, the model's call -/
def k_u0 (A : Int → Int) (x : Int) : Int → Int := z_ro (z_ro (z_ro (z_ro (z_ro A 7 (A 7 - 1)) 8 (A (x + 1))) 3 (A (x + 2))) 4 (A (x + 3))) 11 (A (x + 4))
theorem p_mundo (d : Nat) (T : ZT) (G : ZG) (s : ZG × ZG) {x : Int} (h7 : 0 < G 81 7 ∧ G 81 7 ≤ 30) (h1 : 0 ≤ G 81 1 ∧ G 81 1 ≤ 10) (hx : x = 186 + 65 * (G 81 7 - 1)) (hi : i_in (G 81 x)) : ∃ R', z_call (d + 2) 188 [vr 80] (z_Y T G s) = some (vi (iI (G 81 7 - 1)), z_Y T (z_up G 81 R') s) ∧ k_ub (k_u0 (G 81) x) R' x (G 81 1) := by
  have x0 : 186 ≤ x ∧ x ≤ 2071 := by omega
  have nz : (G 81 7 = 0) = False := eq_false (by omega)
  have e7 : k_u0 (G 81) x 7 = G 81 7 - 1 := by
    unfold k_u0
    rw [z_ro_ne _ _ (by omega), z_ro_ne _ _ (by omega), z_ro_ne _ _ (by omega), z_ro_ne _ _ (by omega), z_ro_eq]
  have eo : ∀ k, k ≠ 7 → k ≠ 8 → k ≠ 3 → k ≠ 4 → k ≠ 11 → k_u0 (G 81) x k = G 81 k := by
    intro k a b c e f
    unfold k_u0
    rw [z_ro_ne _ _ f, z_ro_ne _ _ e, z_ro_ne _ _ c, z_ro_ne _ _ b, z_ro_ne _ _ a]
  obtain ⟨R', e, k⟩ := p_mu_98 d T G s (n := G 81 1) x0 h1 (k_u0 (G 81) x) (eo 1 (by omega) (by omega) (by omega) (by omega) (by omega)) (by rw [eo x (by omega) (by omega) (by omega) (by omega) (by omega)]; exact hi) (G 81 1).toNat 0 (k_u0 (G 81) x) (by omega) (by omega) (fun _ _ => rfl) (fun _ _ _ => ⟨rfl, rfl, rfl⟩) (fun p a b => by omega)
  rw [e7] at e
  refine ⟨R', ?_, k⟩
  have f1 : ∀ v, z_ro (G 81) 7 v (x + 1) = G 81 (x + 1) := fun v => z_ro_ne _ _ (by omega)
  have f2 : ∀ v w, z_ro (z_ro (G 81) 7 v) 8 w (x + 2) = G 81 (x + 2) := fun v w => by rw [z_ro_ne _ _ (by omega), z_ro_ne _ _ (by omega)]
  have f3 : ∀ v w u, z_ro (z_ro (z_ro (G 81) 7 v) 8 w) 3 u (x + 3) = G 81 (x + 3) := fun v w u => by rw [z_ro_ne _ _ (by omega), z_ro_ne _ _ (by omega), z_ro_ne _ _ (by omega)]
  have f4 : ∀ v w u t, z_ro (z_ro (z_ro (z_ro (G 81) 7 v) 8 w) 3 u) 4 t (x + 4) = G 81 (x + 4) := fun v w u t => by rw [z_ro_ne _ _ (by omega), z_ro_ne _ _ (by omega), z_ro_ne _ _ (by omega), z_ro_ne _ _ (by omega)]
  unfold k_u0 at e
  have hx' := hx.symm
  rw [e_M_undo]
  simp -implicitDefEqProofs (disch := first | assumption | omega | rfl | (simp only [z_up_eq, z_up_app, ↓reduceIte, Nat.reduceEqDiff]; omega)) only [z_lit0, z_lit1, z_lit2, z_litl, iI_add, iI_sub, iI_mul, iI_neg, iI_and, iI_or, iI_xor, iI_shl, iI_shr, iI_ushr, iI_div, iI_b, iI_c, iI_i2l, lI_l2i, lI_add, lI_sub, lI_mul, lI_neg, lI_div, lI_or, lI_and, lI_shl, lI_shr, nI_iI, lg_lt0, lg_gt0, lg_eq0, i_ne0', l_ne0', iI_lt, iI_le, iI_eq, lI_lt, lI_le, lI_eq, zb_0, zb_fit, zb_fit0, zb_fit1, i_one_zero, i_w_in, z_tb0, z_tb1, z_tb2, z_tb3, z_tb4, z_tb5, z_tb6, z_tb7, z_tb8, z_tbl, z_tu0, z_tu1, z_tu2, z_i_62, z_i_63, z_i_86, z_i_88, z_l_Y, z_ui_62, z_ui_63, z_ui_86, z_ui_88, z_ul_Y, z_sz_Y, z_sw_Y, iI_nat, z_ix_t, z_at, Int.add_zero, Int.sub_zero, Int.zero_add, Int.mul_zero, ne_eq, Bool.false_eq_true, Bool.true_eq_false, reduceCtorEq, eq_self, and_true, true_and, and_false, false_and, and_self, not_true_eq_false, not_false_eq_true, decide_true, decide_false, ↓reduceIte, Int.reduceEq, Int.reduceNe, Int.reduceLT, Int.reduceLE, Int.reduceAdd, Int.reduceSub, Int.reduceMul, Int.reduceNeg, Nat.reduceAdd, Nat.reduceEqDiff, Nat.reduceBEq, ↓z_x_eq, z_g_t, z_bI_s, z_bL_s, z_bR_s, z_bV_s, Int.cast_ofNat_Int, beq_self_eq_true, Bool.and_true, Bool.true_and, Bool.and_self, Bool.or_true, Bool.true_or, Bool.false_and, Bool.and_false, Bool.false_or, Bool.or_false, Bool.not_false, Bool.not_true, if_true, if_false, ite_true, ite_false, z_up_eq, z_up_app, z_ro_eq, nz, hx', f1, f2, f3, f4, z_up_up, e]

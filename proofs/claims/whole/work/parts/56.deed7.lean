/-! THE PURE PART, 36: sit -/
/-- whom the class finds on a seat -/
def k_sit (G : ZG) (x : Int) : Int := z_find 10 0 (fun p => decide (G 21 p = x))
theorem k_at_in {A : Int → Int} {G : ZG} (h : c_nw A G) : ∀ p, 0 ≤ p → p < 10 → -1 ≤ G 21 p ∧ G 21 p ≤ 9 := by
  intro p a b
  have m0 := h.1.1
  by_cases c : p < A 1
  · rw [(dw_o h p a c).1]
    have := (mo_p h.1 p a c).2.2.2.1
    omega
  · rw [(dw_u h p (by omega) b).1]; omega
theorem k_sit_eq {A : Int → Int} {G : ZG} (h : c_nw A G) {x : Int} (hx : 0 ≤ x) : k_sit G x = m_sit A x := by
  have m1 := h.1.2.1
  unfold k_sit m_sit
  rw [show (10 : Nat) = (A 1).toNat + (10 - (A 1).toNat) by omega, z_find_more (A 1).toNat (10 - (A 1).toNat) 0 (fun k a b => ?_)]
  · rw [z_find_eq (A 1).toNat 0 (fun k a b => ?_)]
    have := (dw_o h k (by omega) (by omega)).1
    rw [this]
  · have := (dw_u h k (by omega) (by omega)).1
    rw [this]
    exact decide_eq_false (by omega)
theorem p_whoSitsA (d : Nat) (T : ZT) (G : ZG) (s : ZG × ZG) {x : Int} (hx : i_in x) (hA : ∀ p, 0 ≤ p → p < 10 → -1 ≤ G 21 p ∧ G 21 p ≤ 9) : z_call (d + 1) 120 [vr 20, vi (iI x)] (z_Y T G s) = some (vi (iI (k_sit G x)), z_Y T G s) := by
  rw [e_Mo_whoSits]
  simp -implicitDefEqProofs (disch := first | assumption | omega | rfl | (simp only [z_up_eq, z_up_app, ↓reduceIte, Nat.reduceEqDiff]; omega)) only [z_lit0, z_lit1, z_lit2, z_litl, iI_add, iI_sub, iI_mul, iI_neg, iI_and, iI_or, iI_xor, iI_shl, iI_shr, iI_ushr, iI_div, iI_b, iI_c, iI_i2l, lI_l2i, lI_add, lI_sub, lI_mul, lI_neg, lI_div, lI_or, lI_and, lI_shl, lI_shr, nI_iI, lg_lt0, lg_gt0, lg_eq0, i_ne0', l_ne0', iI_lt, iI_le, iI_eq, lI_lt, lI_le, lI_eq, zb_0, zb_fit, zb_fit0, zb_fit1, i_one_zero, i_w_in, z_tb0, z_tb1, z_tb2, z_tb3, z_tb4, z_tb5, z_tb6, z_tb7, z_tb8, z_tbl, z_tu0, z_tu1, z_tu2, z_i_62, z_i_63, z_i_86, z_i_88, z_l_Y, z_ui_62, z_ui_63, z_ui_86, z_ui_88, z_ul_Y, z_sz_Y, z_sw_Y, iI_nat, z_ix_t, z_at, Int.add_zero, Int.sub_zero, Int.zero_add, Int.mul_zero, ne_eq, Bool.false_eq_true, Bool.true_eq_false, reduceCtorEq, eq_self, and_true, true_and, and_false, false_and, and_self, not_true_eq_false, not_false_eq_true, decide_true, decide_false, ↓reduceIte, Int.reduceEq, Int.reduceNe, Int.reduceLT, Int.reduceLE, Int.reduceAdd, Int.reduceSub, Int.reduceMul, Int.reduceNeg, Nat.reduceAdd, Nat.reduceEqDiff, Nat.reduceBEq, ↓z_x_eq, z_g_t, z_bI_s, z_bL_s, z_bR_s, z_bV_s, Int.cast_ofNat_Int, beq_self_eq_true, Bool.and_true, Bool.true_and, Bool.and_self, Bool.or_true, Bool.true_or, Bool.false_and, Bool.and_false, Bool.false_or, Bool.or_false, Bool.not_false, Bool.not_true, if_true, if_false, ite_true, ite_false, z_up_eq, z_up_app, z_ro_eq]
  exact p_whoSits_l d T G s hx (fun p a b => by have := hA p a b; exact ⟨by omega, by omega⟩) 10 0 (by omega) (by omega)
theorem k_sit_in (G : ZG) (x : Int) : -1 ≤ k_sit G x ∧ k_sit G x < 10 := by
  rcases z_find_in (fun p => decide (G 21 p = x)) 10 0 with h | h
  · unfold k_sit; rw [h]; omega
  · have h1 := h.1
    have h2 := h.2.1
    unfold k_sit
    omega
theorem ag_seat {A : Int → Int} {p v : Int} (hM : m_ok A) (hp : 0 ≤ p ∧ p < A 1) (hv : -1 ≤ v ∧ v < A 0) : m_ok (z_ro A (32 + 5 * p + 3) v) := by
  have m1 := hM.2.1
  have m8 := hM.2.2.2.2.2.2.2.2.1
  refine ag_ok hM (ag_p (ag_id A) ⟨hp.1, by omega⟩ (by omega)) (by rw [z_ro_ne _ _ (by omega)]; exact m8) (fun q a b => ?_)
  have mq := hM.2.2.2.2.2.2.2.2.2.2.2.2.2.1 q a b
  rw [z_ro_ne _ _ (show 32 + 5 * q + 2 ≠ 32 + 5 * p + 3 by omega), z_ro_ne _ _ (show 32 + 5 * q + 4 ≠ 32 + 5 * p + 3 by omega)]
  refine ⟨mq.2.2.1, ?_, mq.2.2.2.2⟩
  unfold z_ro
  split
  · exact hv
  · exact mq.2.2.2.1
theorem D_at {A : Int → Int} {G : ZG} (hC : c_nw A G) {p x : Int} (hp : 0 ≤ p ∧ p < A 1) (hx : -1 ≤ x ∧ x < A 0) (hf : ∀ q, 0 ≤ q → q < A 1 → A (32 + 5 * q + 3) = x → x = -1) : c_nw (z_ro A (32 + 5 * p + 3) x) (z_up G 21 (z_ro (G 21) p x)) := by
  have m1 := hC.1.2.1
  refine D_mo hC (fun r x1 x2 x3 => z_up_ne _ _ x2) (ag_p (ag_id A) ⟨hp.1, by omega⟩ (by omega)) (fun k x1 x2 x3 => z_ro_ne _ _ (by omega)) (ag_seat hC.1 hp hx) ?_ (fun r x1 x2 => z_ro_ne _ _ (by omega)) ?_ (fun r x1 x2 => ?_) (fun r x1 x2 => ?_)
  · intro a b a1 a2 b1 b2 e
    rw [z_ro_ne _ _ (by omega)] at a2 b2
    by_cases ca : a = p
    · by_cases cb : b = p
      · exact Or.inl (ca.trans cb.symm)
      · rw [z_ro_ne _ _ (show 32 + 5 * b + 3 ≠ 32 + 5 * p + 3 by omega)] at e
        rw [ca, z_ro_eq] at e ⊢
        exact Or.inr (hf b b1 b2 e.symm)
    · rw [z_ro_ne _ _ (show 32 + 5 * a + 3 ≠ 32 + 5 * p + 3 by omega)] at e ⊢
      by_cases cb : b = p
      · rw [cb, z_ro_eq] at e
        right
        rw [e]
        exact hf a a1 a2 e
      · rw [z_ro_ne _ _ (show 32 + 5 * b + 3 ≠ 32 + 5 * p + 3 by omega)] at e
        exact hC.2.1 a b a1 a2 b1 b2 e
  · rw [z_up_ne _ _ (show 20 ≠ 21 by omega), z_ro_ne _ _ (by omega), z_ro_ne _ _ (by omega)]
    exact dw_m hC
  · rw [z_up_eq, z_up_ne _ _ (show 22 ≠ 21 by omega), z_ro_ne _ _ (show 32 + 5 * r + 4 ≠ 32 + 5 * p + 3 by omega)]
    refine ⟨?_, (dw_o hC r x1 x2).2⟩
    by_cases f : r = p
    · rw [f, z_ro_eq, z_ro_eq]
    · rw [z_ro_ne _ _ f, z_ro_ne _ _ (by omega)]; exact (dw_o hC r x1 x2).1
  · rw [z_up_eq, z_up_ne _ _ (show 22 ≠ 21 by omega), z_ro_ne _ _ (by omega)]
    exact dw_u hC r x1 x2
theorem k_sit_no {A : Int → Int} {G : ZG} (h : c_nw A G) {x : Int} (hx : 0 ≤ x) (e : k_sit G x = -1) : ∀ q, 0 ≤ q → q < A 1 → A (32 + 5 * q + 3) = x → x = -1 := by
  intro q a b f
  have m1 := h.1.2.1
  rw [k_sit_eq h hx] at e
  have := z_find_none (P := fun p => decide (A (32 + 5 * p + 3) = x)) (A 1).toNat 0 (by omega) e q a (by omega)
  exact absurd f (of_decide_eq_false this)
theorem d_sit (d b_ : Nat) {T : ZT} {G : ZG} (hE : ∃ A, c_nw A G) {p x : Int} (hp : i_in p) (hx : i_in x) : z_dd True T G (fun σ => z_call (d + 4) 123 [vr 65, vi (iI p), vi (iI x)] σ) (fun σ => z_call (b_ + 3) 130 [vr 80, vi (iI p), vi (iI x)] σ) := by
  obtain ⟨A0, hC0⟩ := hE
  have q0 := (dw_h hC0).2.1
  have q1 := (dw_h hC0).1
  have m10 := hC0.1.2.1
  have m00 := hC0.1.1
  have hat := k_at_in hC0
  have ki := k_sit_in G x
  by_cases c1 : (0 ≤ p ∧ p ≤ G 11 3 - 1) ∧ G 21 p ≠ x ∧ (x = -1 ∨ ((0 ≤ x ∧ x ≤ G 11 0 - 1) ∧ k_sit G x = -1))
  · obtain ⟨c1, c2, c3⟩ := c1
    have wi := hat p c1.1 (by omega)
    obtain ⟨W, ek, hW⟩ := p_ckeepA d T G (dw_b7 hC0).1 (dw_b7 hC0).2
    refine ⟨iI 1, z_up (z_up (z_up G 21 (z_ro (G 21) p x)) 25 (z_ro (z_ro (G 25) 1 ((G 25 1 + 1) % 30)) 2 (if G 25 2 < 30 then G 25 2 + 1 else G 25 2))) 26 W, fun _ => zb_fit1, fun s => ?_, fun r a => ?_, ?_⟩
    · dsimp only
      rw [e_De_sits]
      rcases c3 with c3 | c3
      · rw [c3] at c2 ⊢
        simp -implicitDefEqProofs (disch := first | assumption | omega | rfl | (simp only [z_up_eq, z_up_app, ↓reduceIte, Nat.reduceEqDiff]; omega)) only [z_lit0, z_lit1, z_lit2, z_litl, iI_add, iI_sub, iI_mul, iI_neg, iI_and, iI_or, iI_xor, iI_shl, iI_shr, iI_ushr, iI_div, iI_b, iI_c, iI_i2l, lI_l2i, lI_add, lI_sub, lI_mul, lI_neg, lI_div, lI_or, lI_and, lI_shl, lI_shr, nI_iI, lg_lt0, lg_gt0, lg_eq0, i_ne0', l_ne0', iI_lt, iI_le, iI_eq, lI_lt, lI_le, lI_eq, zb_0, zb_fit, zb_fit0, zb_fit1, i_one_zero, i_w_in, z_tb0, z_tb1, z_tb2, z_tb3, z_tb4, z_tb5, z_tb6, z_tb7, z_tb8, z_tbl, z_tu0, z_tu1, z_tu2, z_i_62, z_i_63, z_i_86, z_i_88, z_l_Y, z_ui_62, z_ui_63, z_ui_86, z_ui_88, z_ul_Y, z_sz_Y, z_sw_Y, iI_nat, z_ix_t, z_at, Int.add_zero, Int.sub_zero, Int.zero_add, Int.mul_zero, ne_eq, Bool.false_eq_true, Bool.true_eq_false, reduceCtorEq, eq_self, and_true, true_and, and_false, false_and, and_self, not_true_eq_false, not_false_eq_true, decide_true, decide_false, ↓reduceIte, Int.reduceEq, Int.reduceNe, Int.reduceLT, Int.reduceLE, Int.reduceAdd, Int.reduceSub, Int.reduceMul, Int.reduceNeg, Nat.reduceAdd, Nat.reduceEqDiff, Nat.reduceBEq, ↓z_x_eq, z_g_t, z_bI_s, z_bL_s, z_bR_s, z_bV_s, Int.cast_ofNat_Int, beq_self_eq_true, Bool.and_true, Bool.true_and, Bool.and_self, Bool.or_true, Bool.true_or, Bool.false_and, Bool.and_false, Bool.false_or, Bool.or_false, Bool.not_false, Bool.not_true, if_true, if_false, ite_true, ite_false, z_up_eq, z_up_app, z_ro_eq, p_hasPerson, c1, zb_t, c2, ek, z_up_cm]
        exact ok_q
      · have n1 : (x = -1) = False := eq_false (by omega)
        simp -implicitDefEqProofs (disch := first | assumption | omega | rfl | (simp only [z_up_eq, z_up_app, ↓reduceIte, Nat.reduceEqDiff]; omega)) only [z_lit0, z_lit1, z_lit2, z_litl, iI_add, iI_sub, iI_mul, iI_neg, iI_and, iI_or, iI_xor, iI_shl, iI_shr, iI_ushr, iI_div, iI_b, iI_c, iI_i2l, lI_l2i, lI_add, lI_sub, lI_mul, lI_neg, lI_div, lI_or, lI_and, lI_shl, lI_shr, nI_iI, lg_lt0, lg_gt0, lg_eq0, i_ne0', l_ne0', iI_lt, iI_le, iI_eq, lI_lt, lI_le, lI_eq, zb_0, zb_fit, zb_fit0, zb_fit1, i_one_zero, i_w_in, z_tb0, z_tb1, z_tb2, z_tb3, z_tb4, z_tb5, z_tb6, z_tb7, z_tb8, z_tbl, z_tu0, z_tu1, z_tu2, z_i_62, z_i_63, z_i_86, z_i_88, z_l_Y, z_ui_62, z_ui_63, z_ui_86, z_ui_88, z_ul_Y, z_sz_Y, z_sw_Y, iI_nat, z_ix_t, z_at, Int.add_zero, Int.sub_zero, Int.zero_add, Int.mul_zero, ne_eq, Bool.false_eq_true, Bool.true_eq_false, reduceCtorEq, eq_self, and_true, true_and, and_false, false_and, and_self, not_true_eq_false, not_false_eq_true, decide_true, decide_false, ↓reduceIte, Int.reduceEq, Int.reduceNe, Int.reduceLT, Int.reduceLE, Int.reduceAdd, Int.reduceSub, Int.reduceMul, Int.reduceNeg, Nat.reduceAdd, Nat.reduceEqDiff, Nat.reduceBEq, ↓z_x_eq, z_g_t, z_bI_s, z_bL_s, z_bR_s, z_bV_s, Int.cast_ofNat_Int, beq_self_eq_true, Bool.and_true, Bool.true_and, Bool.and_self, Bool.or_true, Bool.true_or, Bool.false_and, Bool.and_false, Bool.false_or, Bool.or_false, Bool.not_false, Bool.not_true, if_true, if_false, ite_true, ite_false, z_up_eq, z_up_app, z_ro_eq, p_hasPerson, c1, zb_t, c2, n1, p_hasSeat, c3, p_whoSitsA, hat, ek, z_up_cm]
        exact ok_q
    · rw [z_up_ne _ _ (show r ≠ 26 by omega), z_up_ne _ _ (show r ≠ 25 by omega), z_up_ne _ _ (show r ≠ 21 by omega)]
    · intro A Gm s hC e hq e83
      have q := (dw_h hC).2.1
      have qq := (dw_h hC).1
      have m0 := hC.1.1
      have m1 := hC.1.2.1
      have m7 := hC.1.2.2.2.2.2.2.2.1
      rw [q] at c1
      rw [qq] at c3
      have hp' : 0 ≤ p ∧ p < A 1 := ⟨c1.1, by omega⟩
      have mp := mo_p hC.1 p hp'.1 hp'.2
      have o := (dw_o hC p hp'.1 hp'.2).1
      have c2' : A (32 + 5 * p + 3) ≠ x := by rw [← o]; exact c2
      obtain ⟨B, R, em, k1, k2⟩ := p_mkeep b_ T Gm s (by rw [e]; exact m7)
      rw [e] at k2
      have hK := K_keep hC hW k1 k2
      have b7 : 0 ≤ B 7 ∧ B 7 ≤ 29 := by
        rcases k2 with ⟨e, f⟩ | ⟨e, f⟩
        · rw [e]; omega
        · have := e.2.1; omega
      have pi := p_isPerson b_ T Gm s (x := p) ⟨hp, by rw [e]; exact m1⟩
      rw [e] at pi
      have ps := p_isSeat b_ T Gm s (x := x) ⟨hx, by rw [e]; exact m0⟩
      rw [e] at ps
      have pt := p_sitterOf b_ T Gm s (x := x) hx (by rw [e]; exact hC.1)
      rw [e] at pt
      dsimp only
      rw [e_M_sit]
      have fin : c_nw (z_ro (z_ro R 7 (B 7 + 1)) (32 + 5 * p + 3) x) (z_up (z_up (z_up G 21 (z_ro (G 21) p x)) 25 (z_ro (z_ro (G 25) 1 ((G 25 1 + 1) % 30)) 2 (if G 25 2 < 30 then G 25 2 + 1 else G 25 2))) 26 W) ∧ z_ro (z_ro R 7 (B 7 + 1)) (32 + 5 * p + 3) x 5 = A 5 := by
        have a1 : z_ro R 7 (B 7 + 1) 1 = A 1 := by
          have := (dw_h hK).2.1
          rw [z_up_ne _ _ (by omega), z_up_ne _ _ (by omega)] at this
          rw [← this]; exact q
        have a0 : z_ro R 7 (B 7 + 1) 0 = A 0 := by
          have := (dw_h hK).1
          rw [z_up_ne _ _ (by omega), z_up_ne _ _ (by omega)] at this
          rw [← this]; exact qq
        have a5 : z_ro R 7 (B 7 + 1) 5 = A 5 := by
          have := (dw_h hK).2.2.2.1
          rw [z_up_ne _ _ (by omega), z_up_ne _ _ (by omega)] at this
          rw [← this]; exact (dw_h hC).2.2.2.1
        have ks : k_sit (z_up (z_up G 25 (z_ro (z_ro (G 25) 1 ((G 25 1 + 1) % 30)) 2 (if G 25 2 < 30 then G 25 2 + 1 else G 25 2))) 26 W) x = k_sit G x := by
          unfold k_sit
          rw [z_up_ne _ _ (show 21 ≠ 26 by omega), z_up_ne _ _ (show 21 ≠ 25 by omega)]
        have := D_at hK (p := p) (x := x) (by rw [a1]; exact hp') (by rw [a0]; omega) (fun r x1 x2 x3 => by
          rcases c3 with c3 | c3
          · exact c3
          · exact k_sit_no hK c3.1.1 (ks.trans c3.2) r x1 x2 x3)
        rw [z_up_ne _ _ (show 21 ≠ 26 by omega), z_up_ne _ _ (show 21 ≠ 25 by omega), z_up_cm _ _ _ (show 21 < 26 by omega), z_up_cm _ _ _ (show 21 < 25 by omega)] at this
        exact ⟨this, by rw [z_ro_ne _ _ (by omega)]; exact a5⟩
      rcases c3 with c3 | c3
      · rw [c3] at c2' fin ⊢
        simp -implicitDefEqProofs (disch := first | assumption | omega | rfl | (simp only [z_up_eq, z_up_app, ↓reduceIte, Nat.reduceEqDiff]; omega)) only [z_lit0, z_lit1, z_lit2, z_litl, iI_add, iI_sub, iI_mul, iI_neg, iI_and, iI_or, iI_xor, iI_shl, iI_shr, iI_ushr, iI_div, iI_b, iI_c, iI_i2l, lI_l2i, lI_add, lI_sub, lI_mul, lI_neg, lI_div, lI_or, lI_and, lI_shl, lI_shr, nI_iI, lg_lt0, lg_gt0, lg_eq0, i_ne0', l_ne0', iI_lt, iI_le, iI_eq, lI_lt, lI_le, lI_eq, zb_0, zb_fit, zb_fit0, zb_fit1, i_one_zero, i_w_in, z_tb0, z_tb1, z_tb2, z_tb3, z_tb4, z_tb5, z_tb6, z_tb7, z_tb8, z_tbl, z_tu0, z_tu1, z_tu2, z_i_62, z_i_63, z_i_86, z_i_88, z_l_Y, z_ui_62, z_ui_63, z_ui_86, z_ui_88, z_ul_Y, z_sz_Y, z_sw_Y, iI_nat, z_ix_t, z_at, Int.add_zero, Int.sub_zero, Int.zero_add, Int.mul_zero, ne_eq, Bool.false_eq_true, Bool.true_eq_false, reduceCtorEq, eq_self, and_true, true_and, and_false, false_and, and_self, not_true_eq_false, not_false_eq_true, decide_true, decide_false, ↓reduceIte, Int.reduceEq, Int.reduceNe, Int.reduceLT, Int.reduceLE, Int.reduceAdd, Int.reduceSub, Int.reduceMul, Int.reduceNeg, Nat.reduceAdd, Nat.reduceEqDiff, Nat.reduceBEq, ↓z_x_eq, z_g_t, z_bI_s, z_bL_s, z_bR_s, z_bV_s, Int.cast_ofNat_Int, beq_self_eq_true, Bool.and_true, Bool.true_and, Bool.and_self, Bool.or_true, Bool.true_or, Bool.false_and, Bool.and_false, Bool.false_or, Bool.or_false, Bool.not_false, Bool.not_true, if_true, if_false, ite_true, ite_false, z_up_eq, z_up_app, z_ro_eq, pi, c1, zb_t, p_get, e, c2', em, p_set, z_up_up]
        exact ok_ret ⟨rfl, _, s, rfl, fin.1, fin.2⟩
      · have n1 : (x = -1) = False := eq_false (by omega)
        have ke : m_sit A x = -1 := (k_sit_eq hC c3.1.1).symm.trans c3.2
        simp -implicitDefEqProofs (disch := first | assumption | omega | rfl | (simp only [z_up_eq, z_up_app, ↓reduceIte, Nat.reduceEqDiff]; omega)) only [z_lit0, z_lit1, z_lit2, z_litl, iI_add, iI_sub, iI_mul, iI_neg, iI_and, iI_or, iI_xor, iI_shl, iI_shr, iI_ushr, iI_div, iI_b, iI_c, iI_i2l, lI_l2i, lI_add, lI_sub, lI_mul, lI_neg, lI_div, lI_or, lI_and, lI_shl, lI_shr, nI_iI, lg_lt0, lg_gt0, lg_eq0, i_ne0', l_ne0', iI_lt, iI_le, iI_eq, lI_lt, lI_le, lI_eq, zb_0, zb_fit, zb_fit0, zb_fit1, i_one_zero, i_w_in, z_tb0, z_tb1, z_tb2, z_tb3, z_tb4, z_tb5, z_tb6, z_tb7, z_tb8, z_tbl, z_tu0, z_tu1, z_tu2, z_i_62, z_i_63, z_i_86, z_i_88, z_l_Y, z_ui_62, z_ui_63, z_ui_86, z_ui_88, z_ul_Y, z_sz_Y, z_sw_Y, iI_nat, z_ix_t, z_at, Int.add_zero, Int.sub_zero, Int.zero_add, Int.mul_zero, ne_eq, Bool.false_eq_true, Bool.true_eq_false, reduceCtorEq, eq_self, and_true, true_and, and_false, false_and, and_self, not_true_eq_false, not_false_eq_true, decide_true, decide_false, ↓reduceIte, Int.reduceEq, Int.reduceNe, Int.reduceLT, Int.reduceLE, Int.reduceAdd, Int.reduceSub, Int.reduceMul, Int.reduceNeg, Nat.reduceAdd, Nat.reduceEqDiff, Nat.reduceBEq, ↓z_x_eq, z_g_t, z_bI_s, z_bL_s, z_bR_s, z_bV_s, Int.cast_ofNat_Int, beq_self_eq_true, Bool.and_true, Bool.true_and, Bool.and_self, Bool.or_true, Bool.true_or, Bool.false_and, Bool.and_false, Bool.false_or, Bool.or_false, Bool.not_false, Bool.not_true, if_true, if_false, ite_true, ite_false, z_up_eq, z_up_app, z_ro_eq, pi, c1, zb_t, p_get, e, c2', n1, ps, c3, pt, ke, em, p_set, z_up_up]
        exact ok_ret ⟨rfl, _, s, rfl, fin.1, fin.2⟩
  · refine dd_same (iI 0) (fun _ => zb_fit0) (fun s => ?_) ?_
    · rw [e_De_sits]
      by_cases d1 : 0 ≤ p ∧ p ≤ G 11 3 - 1
      · have wi := hat p d1.1 (by omega)
        by_cases d2 : G 21 p = x
        · simp -implicitDefEqProofs (disch := first | assumption | omega | rfl | (simp only [z_up_eq, z_up_app, ↓reduceIte, Nat.reduceEqDiff]; omega)) only [z_lit0, z_lit1, z_lit2, z_litl, iI_add, iI_sub, iI_mul, iI_neg, iI_and, iI_or, iI_xor, iI_shl, iI_shr, iI_ushr, iI_div, iI_b, iI_c, iI_i2l, lI_l2i, lI_add, lI_sub, lI_mul, lI_neg, lI_div, lI_or, lI_and, lI_shl, lI_shr, nI_iI, lg_lt0, lg_gt0, lg_eq0, i_ne0', l_ne0', iI_lt, iI_le, iI_eq, lI_lt, lI_le, lI_eq, zb_0, zb_fit, zb_fit0, zb_fit1, i_one_zero, i_w_in, z_tb0, z_tb1, z_tb2, z_tb3, z_tb4, z_tb5, z_tb6, z_tb7, z_tb8, z_tbl, z_tu0, z_tu1, z_tu2, z_i_62, z_i_63, z_i_86, z_i_88, z_l_Y, z_ui_62, z_ui_63, z_ui_86, z_ui_88, z_ul_Y, z_sz_Y, z_sw_Y, iI_nat, z_ix_t, z_at, Int.add_zero, Int.sub_zero, Int.zero_add, Int.mul_zero, ne_eq, Bool.false_eq_true, Bool.true_eq_false, reduceCtorEq, eq_self, and_true, true_and, and_false, false_and, and_self, not_true_eq_false, not_false_eq_true, decide_true, decide_false, ↓reduceIte, Int.reduceEq, Int.reduceNe, Int.reduceLT, Int.reduceLE, Int.reduceAdd, Int.reduceSub, Int.reduceMul, Int.reduceNeg, Nat.reduceAdd, Nat.reduceEqDiff, Nat.reduceBEq, ↓z_x_eq, z_g_t, z_bI_s, z_bL_s, z_bR_s, z_bV_s, Int.cast_ofNat_Int, beq_self_eq_true, Bool.and_true, Bool.true_and, Bool.and_self, Bool.or_true, Bool.true_or, Bool.false_and, Bool.and_false, Bool.false_or, Bool.or_false, Bool.not_false, Bool.not_true, if_true, if_false, ite_true, ite_false, z_up_eq, z_up_app, z_ro_eq, p_hasPerson, d1, zb_t, d2]
          exact ok_q
        · have n1 : (x = -1) = False := eq_false (fun f => c1 ⟨d1, d2, Or.inl f⟩)
          by_cases d3 : 0 ≤ x ∧ x ≤ G 11 0 - 1
          · have n2 : (k_sit G x = -1) = False := eq_false (fun f => c1 ⟨d1, d2, Or.inr ⟨d3, f⟩⟩)
            simp -implicitDefEqProofs (disch := first | assumption | omega | rfl | (simp only [z_up_eq, z_up_app, ↓reduceIte, Nat.reduceEqDiff]; omega)) only [z_lit0, z_lit1, z_lit2, z_litl, iI_add, iI_sub, iI_mul, iI_neg, iI_and, iI_or, iI_xor, iI_shl, iI_shr, iI_ushr, iI_div, iI_b, iI_c, iI_i2l, lI_l2i, lI_add, lI_sub, lI_mul, lI_neg, lI_div, lI_or, lI_and, lI_shl, lI_shr, nI_iI, lg_lt0, lg_gt0, lg_eq0, i_ne0', l_ne0', iI_lt, iI_le, iI_eq, lI_lt, lI_le, lI_eq, zb_0, zb_fit, zb_fit0, zb_fit1, i_one_zero, i_w_in, z_tb0, z_tb1, z_tb2, z_tb3, z_tb4, z_tb5, z_tb6, z_tb7, z_tb8, z_tbl, z_tu0, z_tu1, z_tu2, z_i_62, z_i_63, z_i_86, z_i_88, z_l_Y, z_ui_62, z_ui_63, z_ui_86, z_ui_88, z_ul_Y, z_sz_Y, z_sw_Y, iI_nat, z_ix_t, z_at, Int.add_zero, Int.sub_zero, Int.zero_add, Int.mul_zero, ne_eq, Bool.false_eq_true, Bool.true_eq_false, reduceCtorEq, eq_self, and_true, true_and, and_false, false_and, and_self, not_true_eq_false, not_false_eq_true, decide_true, decide_false, ↓reduceIte, Int.reduceEq, Int.reduceNe, Int.reduceLT, Int.reduceLE, Int.reduceAdd, Int.reduceSub, Int.reduceMul, Int.reduceNeg, Nat.reduceAdd, Nat.reduceEqDiff, Nat.reduceBEq, ↓z_x_eq, z_g_t, z_bI_s, z_bL_s, z_bR_s, z_bV_s, Int.cast_ofNat_Int, beq_self_eq_true, Bool.and_true, Bool.true_and, Bool.and_self, Bool.or_true, Bool.true_or, Bool.false_and, Bool.and_false, Bool.false_or, Bool.or_false, Bool.not_false, Bool.not_true, if_true, if_false, ite_true, ite_false, z_up_eq, z_up_app, z_ro_eq, p_hasPerson, d1, zb_t, d2, n1, p_hasSeat, d3, p_whoSitsA, hat, n2]
            exact ok_q
          · simp -implicitDefEqProofs (disch := first | assumption | omega | rfl | (simp only [z_up_eq, z_up_app, ↓reduceIte, Nat.reduceEqDiff]; omega)) only [z_lit0, z_lit1, z_lit2, z_litl, iI_add, iI_sub, iI_mul, iI_neg, iI_and, iI_or, iI_xor, iI_shl, iI_shr, iI_ushr, iI_div, iI_b, iI_c, iI_i2l, lI_l2i, lI_add, lI_sub, lI_mul, lI_neg, lI_div, lI_or, lI_and, lI_shl, lI_shr, nI_iI, lg_lt0, lg_gt0, lg_eq0, i_ne0', l_ne0', iI_lt, iI_le, iI_eq, lI_lt, lI_le, lI_eq, zb_0, zb_fit, zb_fit0, zb_fit1, i_one_zero, i_w_in, z_tb0, z_tb1, z_tb2, z_tb3, z_tb4, z_tb5, z_tb6, z_tb7, z_tb8, z_tbl, z_tu0, z_tu1, z_tu2, z_i_62, z_i_63, z_i_86, z_i_88, z_l_Y, z_ui_62, z_ui_63, z_ui_86, z_ui_88, z_ul_Y, z_sz_Y, z_sw_Y, iI_nat, z_ix_t, z_at, Int.add_zero, Int.sub_zero, Int.zero_add, Int.mul_zero, ne_eq, Bool.false_eq_true, Bool.true_eq_false, reduceCtorEq, eq_self, and_true, true_and, and_false, false_and, and_self, not_true_eq_false, not_false_eq_true, decide_true, decide_false, ↓reduceIte, Int.reduceEq, Int.reduceNe, Int.reduceLT, Int.reduceLE, Int.reduceAdd, Int.reduceSub, Int.reduceMul, Int.reduceNeg, Nat.reduceAdd, Nat.reduceEqDiff, Nat.reduceBEq, ↓z_x_eq, z_g_t, z_bI_s, z_bL_s, z_bR_s, z_bV_s, Int.cast_ofNat_Int, beq_self_eq_true, Bool.and_true, Bool.true_and, Bool.and_self, Bool.or_true, Bool.true_or, Bool.false_and, Bool.and_false, Bool.false_or, Bool.or_false, Bool.not_false, Bool.not_true, if_true, if_false, ite_true, ite_false, z_up_eq, z_up_app, z_ro_eq, p_hasPerson, d1, zb_t, d2, n1, p_hasSeat, d3, zb_f]
            exact ok_q
      · simp -implicitDefEqProofs (disch := first | assumption | omega | rfl | (simp only [z_up_eq, z_up_app, ↓reduceIte, Nat.reduceEqDiff]; omega)) only [z_lit0, z_lit1, z_lit2, z_litl, iI_add, iI_sub, iI_mul, iI_neg, iI_and, iI_or, iI_xor, iI_shl, iI_shr, iI_ushr, iI_div, iI_b, iI_c, iI_i2l, lI_l2i, lI_add, lI_sub, lI_mul, lI_neg, lI_div, lI_or, lI_and, lI_shl, lI_shr, nI_iI, lg_lt0, lg_gt0, lg_eq0, i_ne0', l_ne0', iI_lt, iI_le, iI_eq, lI_lt, lI_le, lI_eq, zb_0, zb_fit, zb_fit0, zb_fit1, i_one_zero, i_w_in, z_tb0, z_tb1, z_tb2, z_tb3, z_tb4, z_tb5, z_tb6, z_tb7, z_tb8, z_tbl, z_tu0, z_tu1, z_tu2, z_i_62, z_i_63, z_i_86, z_i_88, z_l_Y, z_ui_62, z_ui_63, z_ui_86, z_ui_88, z_ul_Y, z_sz_Y, z_sw_Y, iI_nat, z_ix_t, z_at, Int.add_zero, Int.sub_zero, Int.zero_add, Int.mul_zero, ne_eq, Bool.false_eq_true, Bool.true_eq_false, reduceCtorEq, eq_self, and_true, true_and, and_false, false_and, and_self, not_true_eq_false, not_false_eq_true, decide_true, decide_false, ↓reduceIte, Int.reduceEq, Int.reduceNe, Int.reduceLT, Int.reduceLE, Int.reduceAdd, Int.reduceSub, Int.reduceMul, Int.reduceNeg, Nat.reduceAdd, Nat.reduceEqDiff, Nat.reduceBEq, ↓z_x_eq, z_g_t, z_bI_s, z_bL_s, z_bR_s, z_bV_s, Int.cast_ofNat_Int, beq_self_eq_true, Bool.and_true, Bool.true_and, Bool.and_self, Bool.or_true, Bool.true_or, Bool.false_and, Bool.and_false, Bool.false_or, Bool.or_false, Bool.not_false, Bool.not_true, if_true, if_false, ite_true, ite_false, z_up_eq, z_up_app, z_ro_eq, p_hasPerson, d1, zb_f]
        exact ok_q
    · intro A Gm s hC e hq e83
      have q := (dw_h hC).2.1
      have qq := (dw_h hC).1
      have m0 := hC.1.1
      have m1 := hC.1.2.1
      rw [q, qq] at c1
      have pi := p_isPerson b_ T Gm s (x := p) ⟨hp, by rw [e]; exact m1⟩
      rw [e] at pi
      have ps := p_isSeat b_ T Gm s (x := x) ⟨hx, by rw [e]; exact m0⟩
      rw [e] at ps
      have pt := p_sitterOf b_ T Gm s (x := x) hx (by rw [e]; exact hC.1)
      rw [e] at pt
      rw [e_M_sit]
      by_cases d1 : 0 ≤ p ∧ p ≤ A 1 - 1
      · have o := (dw_o hC p d1.1 (by omega)).1
        have h0 := mo_p hC.1 p d1.1 (by omega)
        by_cases d2 : A (32 + 5 * p + 3) = x
        · simp -implicitDefEqProofs (disch := first | assumption | omega | rfl | (simp only [z_up_eq, z_up_app, ↓reduceIte, Nat.reduceEqDiff]; omega)) only [z_lit0, z_lit1, z_lit2, z_litl, iI_add, iI_sub, iI_mul, iI_neg, iI_and, iI_or, iI_xor, iI_shl, iI_shr, iI_ushr, iI_div, iI_b, iI_c, iI_i2l, lI_l2i, lI_add, lI_sub, lI_mul, lI_neg, lI_div, lI_or, lI_and, lI_shl, lI_shr, nI_iI, lg_lt0, lg_gt0, lg_eq0, i_ne0', l_ne0', iI_lt, iI_le, iI_eq, lI_lt, lI_le, lI_eq, zb_0, zb_fit, zb_fit0, zb_fit1, i_one_zero, i_w_in, z_tb0, z_tb1, z_tb2, z_tb3, z_tb4, z_tb5, z_tb6, z_tb7, z_tb8, z_tbl, z_tu0, z_tu1, z_tu2, z_i_62, z_i_63, z_i_86, z_i_88, z_l_Y, z_ui_62, z_ui_63, z_ui_86, z_ui_88, z_ul_Y, z_sz_Y, z_sw_Y, iI_nat, z_ix_t, z_at, Int.add_zero, Int.sub_zero, Int.zero_add, Int.mul_zero, ne_eq, Bool.false_eq_true, Bool.true_eq_false, reduceCtorEq, eq_self, and_true, true_and, and_false, false_and, and_self, not_true_eq_false, not_false_eq_true, decide_true, decide_false, ↓reduceIte, Int.reduceEq, Int.reduceNe, Int.reduceLT, Int.reduceLE, Int.reduceAdd, Int.reduceSub, Int.reduceMul, Int.reduceNeg, Nat.reduceAdd, Nat.reduceEqDiff, Nat.reduceBEq, ↓z_x_eq, z_g_t, z_bI_s, z_bL_s, z_bR_s, z_bV_s, Int.cast_ofNat_Int, beq_self_eq_true, Bool.and_true, Bool.true_and, Bool.and_self, Bool.or_true, Bool.true_or, Bool.false_and, Bool.and_false, Bool.false_or, Bool.or_false, Bool.not_false, Bool.not_true, if_true, if_false, ite_true, ite_false, z_up_eq, z_up_app, z_ro_eq, pi, d1, zb_t, p_get, e, d2]
          exact ok_q
        · have n1 : (x = -1) = False := eq_false (fun f => c1 ⟨d1, by rw [o]; exact d2, Or.inl f⟩)
          by_cases d3 : 0 ≤ x ∧ x ≤ A 0 - 1
          · have ke := k_sit_eq hC d3.1
            rw [ke] at ki
            have n2 : (m_sit A x = -1) = False := eq_false (fun f => c1 ⟨d1, by rw [o]; exact d2, Or.inr ⟨d3, ke.trans f⟩⟩)
            simp -implicitDefEqProofs (disch := first | assumption | omega | rfl | (simp only [z_up_eq, z_up_app, ↓reduceIte, Nat.reduceEqDiff]; omega)) only [z_lit0, z_lit1, z_lit2, z_litl, iI_add, iI_sub, iI_mul, iI_neg, iI_and, iI_or, iI_xor, iI_shl, iI_shr, iI_ushr, iI_div, iI_b, iI_c, iI_i2l, lI_l2i, lI_add, lI_sub, lI_mul, lI_neg, lI_div, lI_or, lI_and, lI_shl, lI_shr, nI_iI, lg_lt0, lg_gt0, lg_eq0, i_ne0', l_ne0', iI_lt, iI_le, iI_eq, lI_lt, lI_le, lI_eq, zb_0, zb_fit, zb_fit0, zb_fit1, i_one_zero, i_w_in, z_tb0, z_tb1, z_tb2, z_tb3, z_tb4, z_tb5, z_tb6, z_tb7, z_tb8, z_tbl, z_tu0, z_tu1, z_tu2, z_i_62, z_i_63, z_i_86, z_i_88, z_l_Y, z_ui_62, z_ui_63, z_ui_86, z_ui_88, z_ul_Y, z_sz_Y, z_sw_Y, iI_nat, z_ix_t, z_at, Int.add_zero, Int.sub_zero, Int.zero_add, Int.mul_zero, ne_eq, Bool.false_eq_true, Bool.true_eq_false, reduceCtorEq, eq_self, and_true, true_and, and_false, false_and, and_self, not_true_eq_false, not_false_eq_true, decide_true, decide_false, ↓reduceIte, Int.reduceEq, Int.reduceNe, Int.reduceLT, Int.reduceLE, Int.reduceAdd, Int.reduceSub, Int.reduceMul, Int.reduceNeg, Nat.reduceAdd, Nat.reduceEqDiff, Nat.reduceBEq, ↓z_x_eq, z_g_t, z_bI_s, z_bL_s, z_bR_s, z_bV_s, Int.cast_ofNat_Int, beq_self_eq_true, Bool.and_true, Bool.true_and, Bool.and_self, Bool.or_true, Bool.true_or, Bool.false_and, Bool.and_false, Bool.false_or, Bool.or_false, Bool.not_false, Bool.not_true, if_true, if_false, ite_true, ite_false, z_up_eq, z_up_app, z_ro_eq, pi, d1, zb_t, p_get, e, d2, n1, ps, d3, pt, n2]
            exact ok_q
          · simp -implicitDefEqProofs (disch := first | assumption | omega | rfl | (simp only [z_up_eq, z_up_app, ↓reduceIte, Nat.reduceEqDiff]; omega)) only [z_lit0, z_lit1, z_lit2, z_litl, iI_add, iI_sub, iI_mul, iI_neg, iI_and, iI_or, iI_xor, iI_shl, iI_shr, iI_ushr, iI_div, iI_b, iI_c, iI_i2l, lI_l2i, lI_add, lI_sub, lI_mul, lI_neg, lI_div, lI_or, lI_and, lI_shl, lI_shr, nI_iI, lg_lt0, lg_gt0, lg_eq0, i_ne0', l_ne0', iI_lt, iI_le, iI_eq, lI_lt, lI_le, lI_eq, zb_0, zb_fit, zb_fit0, zb_fit1, i_one_zero, i_w_in, z_tb0, z_tb1, z_tb2, z_tb3, z_tb4, z_tb5, z_tb6, z_tb7, z_tb8, z_tbl, z_tu0, z_tu1, z_tu2, z_i_62, z_i_63, z_i_86, z_i_88, z_l_Y, z_ui_62, z_ui_63, z_ui_86, z_ui_88, z_ul_Y, z_sz_Y, z_sw_Y, iI_nat, z_ix_t, z_at, Int.add_zero, Int.sub_zero, Int.zero_add, Int.mul_zero, ne_eq, Bool.false_eq_true, Bool.true_eq_false, reduceCtorEq, eq_self, and_true, true_and, and_false, false_and, and_self, not_true_eq_false, not_false_eq_true, decide_true, decide_false, ↓reduceIte, Int.reduceEq, Int.reduceNe, Int.reduceLT, Int.reduceLE, Int.reduceAdd, Int.reduceSub, Int.reduceMul, Int.reduceNeg, Nat.reduceAdd, Nat.reduceEqDiff, Nat.reduceBEq, ↓z_x_eq, z_g_t, z_bI_s, z_bL_s, z_bR_s, z_bV_s, Int.cast_ofNat_Int, beq_self_eq_true, Bool.and_true, Bool.true_and, Bool.and_self, Bool.or_true, Bool.true_or, Bool.false_and, Bool.and_false, Bool.false_or, Bool.or_false, Bool.not_false, Bool.not_true, if_true, if_false, ite_true, ite_false, z_up_eq, z_up_app, z_ro_eq, pi, d1, zb_t, p_get, e, d2, n1, ps, d3, zb_f]
            exact ok_q
      · simp -implicitDefEqProofs (disch := first | assumption | omega | rfl | (simp only [z_up_eq, z_up_app, ↓reduceIte, Nat.reduceEqDiff]; omega)) only [z_lit0, z_lit1, z_lit2, z_litl, iI_add, iI_sub, iI_mul, iI_neg, iI_and, iI_or, iI_xor, iI_shl, iI_shr, iI_ushr, iI_div, iI_b, iI_c, iI_i2l, lI_l2i, lI_add, lI_sub, lI_mul, lI_neg, lI_div, lI_or, lI_and, lI_shl, lI_shr, nI_iI, lg_lt0, lg_gt0, lg_eq0, i_ne0', l_ne0', iI_lt, iI_le, iI_eq, lI_lt, lI_le, lI_eq, zb_0, zb_fit, zb_fit0, zb_fit1, i_one_zero, i_w_in, z_tb0, z_tb1, z_tb2, z_tb3, z_tb4, z_tb5, z_tb6, z_tb7, z_tb8, z_tbl, z_tu0, z_tu1, z_tu2, z_i_62, z_i_63, z_i_86, z_i_88, z_l_Y, z_ui_62, z_ui_63, z_ui_86, z_ui_88, z_ul_Y, z_sz_Y, z_sw_Y, iI_nat, z_ix_t, z_at, Int.add_zero, Int.sub_zero, Int.zero_add, Int.mul_zero, ne_eq, Bool.false_eq_true, Bool.true_eq_false, reduceCtorEq, eq_self, and_true, true_and, and_false, false_and, and_self, not_true_eq_false, not_false_eq_true, decide_true, decide_false, ↓reduceIte, Int.reduceEq, Int.reduceNe, Int.reduceLT, Int.reduceLE, Int.reduceAdd, Int.reduceSub, Int.reduceMul, Int.reduceNeg, Nat.reduceAdd, Nat.reduceEqDiff, Nat.reduceBEq, ↓z_x_eq, z_g_t, z_bI_s, z_bL_s, z_bR_s, z_bV_s, Int.cast_ofNat_Int, beq_self_eq_true, Bool.and_true, Bool.true_and, Bool.and_self, Bool.or_true, Bool.true_or, Bool.false_and, Bool.and_false, Bool.false_or, Bool.or_false, Bool.not_false, Bool.not_true, if_true, if_false, ite_true, ite_false, z_up_eq, z_up_app, z_ro_eq, pi, d1, zb_f]
        exact ok_q

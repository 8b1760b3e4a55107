/-! THE PURE PART, 89: the model's pile: what is kept of it -/
/-- code written over a row, two numbers a step -/
def n_cd (X : Int → Int) (c : Int) (C : List (Int × Int)) : Int → Int := fun i => if c ≤ i ∧ i < c + 2 * C.length then (if (i - c) % 2 = 0 then (C.getD ((i - c) / 2).toNat (0, 0)).1 else (C.getD ((i - c) / 2).toNat (0, 0)).2) else X i
theorem n_cd_nil (X : Int → Int) (c : Int) : n_cd X c [] = X := by
  funext i
  unfold n_cd
  rw [if_neg (fun h => by have : i < c + 2 * 0 := h.2; omega)]
theorem n_cd_app (X : Int → Int) (c : Int) (C : List (Int × Int)) (o v : Int) : z_ro (z_ro (n_cd X c C) (c + 2 * C.length) o) (c + 2 * C.length + 1) v = n_cd X c (C ++ [(o, v)]) := by
  funext i
  unfold z_ro n_cd
  rw [List.length_append, List.length_singleton]
  by_cases a : i = c + 2 * C.length + 1
  · have e : ((i - c) / 2).toNat = C.length := by omega
    rw [if_pos a, if_pos (by omega), if_neg (by omega), e]
    simp
  · rw [if_neg a]
    by_cases a2 : i = c + 2 * C.length
    · have e : ((i - c) / 2).toNat = C.length := by omega
      rw [if_pos a2, if_pos (by omega), if_pos (by omega), e]
      simp
    · rw [if_neg a2]
      by_cases b : c ≤ i ∧ i < c + 2 * C.length
      · have e : (C ++ [(o, v)]).getD ((i - c) / 2).toNat (0, 0) = C.getD ((i - c) / 2).toNat (0, 0) := by
          rw [List.getD_eq_getElem?_getD, List.getD_eq_getElem?_getD, List.getElem?_append_left (by omega)]
        rw [if_pos b, e]
        exact (if_pos (by omega)).symm
      · rw [if_neg b, if_neg (by omega)]
theorem p_memit {E : Nat} (hE : 1 ≤ E) (T : ZT) (G : ZG) (s : ZG × ZG) {t0 w : Int} (h12 : G 80 12 = t0) (h13 : G 80 13 = w) (ht : 0 ≤ t0 ∧ t0 ≤ 2115) (hw : 0 ≤ w ∧ w < 303) (o v : Int) : z_call E 95 [vr 80, vi (iI o), vi (iI v)] (z_Y T G s) = some (vi (iI 0), z_Y T (z_up (z_up G 80 (z_ro (G 80) 13 (w + 1))) 83 (z_ro (z_ro (G 83) (t0 + 97 + 2 * w) o) (t0 + 97 + 2 * w + 1) v)) s) := by
  obtain ⟨d, rfl⟩ : ∃ d, E = d + 1 := ⟨E - 1, by omega⟩
  rw [e_M_emit]
  simp -implicitDefEqProofs (disch := first | assumption | omega | rfl | (simp only [z_up_eq, z_up_app, ↓reduceIte, Nat.reduceEqDiff]; omega)) only [z_lit0, z_lit1, z_lit2, z_litl, iI_add, iI_sub, iI_mul, iI_neg, iI_and, iI_or, iI_xor, iI_shl, iI_shr, iI_ushr, iI_div, iI_b, iI_c, iI_i2l, lI_l2i, lI_add, lI_sub, lI_mul, lI_neg, lI_div, lI_or, lI_and, lI_shl, lI_shr, nI_iI, lg_lt0, lg_gt0, lg_eq0, i_ne0', l_ne0', iI_lt, iI_le, iI_eq, lI_lt, lI_le, lI_eq, zb_0, zb_fit, zb_fit0, zb_fit1, i_one_zero, i_w_in, z_tb0, z_tb1, z_tb2, z_tb3, z_tb4, z_tb5, z_tb6, z_tb7, z_tb8, z_tbl, z_tu0, z_tu1, z_tu2, z_i_62, z_i_63, z_i_86, z_i_88, z_l_Y, z_ui_62, z_ui_63, z_ui_86, z_ui_88, z_ul_Y, z_sz_Y, z_sw_Y, iI_nat, z_ix_t, z_at, Int.add_zero, Int.sub_zero, Int.zero_add, Int.mul_zero, ne_eq, Bool.false_eq_true, Bool.true_eq_false, reduceCtorEq, eq_self, and_true, true_and, and_false, false_and, and_self, not_true_eq_false, not_false_eq_true, decide_true, decide_false, ↓reduceIte, Int.reduceEq, Int.reduceNe, Int.reduceLT, Int.reduceLE, Int.reduceAdd, Int.reduceSub, Int.reduceMul, Int.reduceNeg, Nat.reduceAdd, Nat.reduceEqDiff, Nat.reduceBEq, ↓z_x_eq, z_g_t, z_bI_s, z_bL_s, z_bR_s, z_bV_s, Int.cast_ofNat_Int, beq_self_eq_true, Bool.and_true, Bool.true_and, Bool.and_self, Bool.or_true, Bool.true_or, Bool.false_and, Bool.and_false, Bool.false_or, Bool.or_false, Bool.not_false, Bool.not_true, if_true, if_false, ite_true, ite_false, z_up_eq, z_up_app, z_ro_eq, h12, h13, z_up_up, z_up_cm]
def n_R (B : Int → Int) (L t0 w0 q : Int) (e : Bool) (R0 : Int → Int) (P : List Int) (wh : Bool) (j : Nat) (C : List (Int × Int)) (R : Int → Int) (w : Int) : Prop := y_mt R w B L (y_P B L j) ∧ (R 16 = P.length ∧ R 17 = j_cn P ∧ R 18 = zb wh ∧ R 19 = zb e) ∧ (R 12 = t0 ∧ R 13 = w0 + C.length ∧ R 14 = q) ∧ ∀ k, (k = 4 ∨ k = 5 ∨ k = 6 ∨ 20 ≤ k) → R k = R0 k
/-- the model in the midst of a law: pile P, a whole one read or not, at the j-th token, code C -/
def n_S (B : Int → Int) (L t0 w0 q : Int) (e : Bool) (G0 : ZG) (X0 : Int → Int) (P : List Int) (wh : Bool) (j : Nat) (C : List (Int × Int)) (G : ZG) (w : Int) : Prop := n_R B L t0 w0 q e (G0 80) P wh j C (G 80) w ∧ n_pl (G 85) P ∧ G 83 = n_cd X0 (t0 + 97 + 2 * w0) C ∧ ∀ r, r ≠ 80 → r ≠ 83 → r ≠ 85 → G r = G0 r
section
variable {T : ZT} {s : ZG × ZG} {B X0 : Int → Int} {L t0 w0 q : Int} {e : Bool} {G0 : ZG}
theorem n_S_mk {P P' : List Int} {wh wh' : Bool} {j : Nat} {C C' : List (Int × Int)} {G G' : ZG} {w : Int} (h : n_S B L t0 w0 q e G0 X0 P wh j C G w) (ho : ∀ r, r ≠ 80 → r ≠ 83 → r ≠ 85 → G' r = G r) (he : ∀ k, k ≠ 13 → k ≠ 16 → k ≠ 17 → k ≠ 18 → G' 80 k = G 80 k) (h13 : G' 80 13 = w0 + C'.length) (h16 : G' 80 16 = P'.length) (h17 : G' 80 17 = j_cn P') (h18 : G' 80 18 = zb wh') (hp : n_pl (G' 85) P') (hx : G' 83 = n_cd X0 (t0 + 97 + 2 * w0) C') : n_S B L t0 w0 q e G0 X0 P' wh' j C' G' w := by
  obtain ⟨⟨⟨m1, m2, m3, m4, m5⟩, ⟨r1, r2, r3, r4⟩, ⟨r5, r6, r7⟩, r8⟩, -, -, k⟩ := h
  refine ⟨⟨⟨?_, ?_, ?_, ?_, m5⟩, ⟨h16, h17, h18, ?_⟩, ⟨?_, h13, ?_⟩, fun k a => ?_⟩, hp, hx, fun r a b c => by rw [ho r a b c, k r a b c]⟩
  · rw [he 8 (by omega) (by omega) (by omega) (by omega)]; exact m1
  · rw [he 7 (by omega) (by omega) (by omega) (by omega)]; exact m2
  · rw [he 9 (by omega) (by omega) (by omega) (by omega)]; exact m3
  · rw [he 10 (by omega) (by omega) (by omega) (by omega)]; exact m4
  · rw [he 19 (by omega) (by omega) (by omega) (by omega)]; exact r4
  · rw [he 12 (by omega) (by omega) (by omega) (by omega)]; exact r5
  · rw [he 14 (by omega) (by omega) (by omega) (by omega)]; exact r7
  · rw [he k (by omega) (by omega) (by omega) (by omega)]; exact r8 k a
theorem p_mnext {E : Nat} (hE : 2 ≤ E) (hB : y_tm G0 B L) {P : List Int} {wh : Bool} {j : Nat} {C : List (Int × Int)} {G : ZG} (h : n_S B L t0 w0 q e G0 X0 P wh j C G (s.2 80 11)) : ∃ G' s', z_call E 80 [vr 80] (z_Y T G s) = some (vi (iI 0), z_Y T G' s') ∧ n_S B L t0 w0 q e G0 X0 P wh (j + 1) C G' (s'.2 80 11) := by
  obtain ⟨d, rfl⟩ : ∃ d, E = d + 2 := ⟨E - 2, by omega⟩
  obtain ⟨⟨m, ⟨r1, r2, r3, r4⟩, ⟨r5, r6, r7⟩, r8⟩, p1, p2, k⟩ := h
  have hB' : y_tm G B L := by
    unfold y_tm at hB ⊢
    rw [r8 4 (by omega), k 84 (by omega) (by omega) (by omega)]; exact hB
  obtain ⟨R', s', e1, e2, e3⟩ := p_next d T G s hB' m
  refine ⟨z_up G 80 R', s', e1, ⟨?_, ?_, ?_, fun k a => ?_⟩, ?_, ?_, fun r a b c => ?_⟩
  · rw [z_up_eq]; exact e2
  · rw [z_up_eq, e3 16 (by omega), e3 17 (by omega), e3 18 (by omega), e3 19 (by omega)]; exact ⟨r1, r2, r3, r4⟩
  · rw [z_up_eq, e3 12 (by omega), e3 13 (by omega), e3 14 (by omega)]; exact ⟨r5, r6, r7⟩
  · rw [z_up_eq, e3 k (by omega)]; exact r8 k a
  · rw [z_up_ne _ _ (by omega)]; exact p1
  · rw [z_up_ne _ _ (by omega)]; exact p2
  · rw [z_up_ne _ _ a]; exact k r a b c
theorem p_settle_0 {E : Nat} (hE : 1 ≤ E) (ht : 0 ≤ t0 ∧ t0 ≤ 2115) (hw : 0 ≤ w0) {r : Int} (hr : 1 ≤ r ∧ r ≤ 7) {wh : Bool} {j : Nat} {w : Int} : ∀ (P : List Int) (C : List (Int × Int)) (G : ZG), n_S B L t0 w0 q e G0 X0 P wh j C G w → n_el P → P.length ≤ 160 → w0 + C.length + P.length ≤ 300 → ∃ G', z_w d_M_settle (z_call E) 0 [some (vr 80), some (vi (iI r))] [] (z_Y T G s) = some (vi (iI 0), z_Y T G' s) ∧ n_S B L t0 w0 q e G0 X0 (j_set r P C).1 wh j (j_set r P C).2 G' w
  | [], C, G, h, _, _, _ => by
    have h16 : G 80 16 = 0 := h.1.2.1.1
    refine ⟨G, ?_, h⟩
    rw [e_M_settle_0]
    simp -implicitDefEqProofs (disch := first | assumption | omega | rfl | (simp only [z_up_eq, z_up_app, ↓reduceIte, Nat.reduceEqDiff]; omega)) only [z_lit0, z_lit1, z_lit2, z_litl, iI_add, iI_sub, iI_mul, iI_neg, iI_and, iI_or, iI_xor, iI_shl, iI_shr, iI_ushr, iI_div, iI_b, iI_c, iI_i2l, lI_l2i, lI_add, lI_sub, lI_mul, lI_neg, lI_div, lI_or, lI_and, lI_shl, lI_shr, nI_iI, lg_lt0, lg_gt0, lg_eq0, i_ne0', l_ne0', iI_lt, iI_le, iI_eq, lI_lt, lI_le, lI_eq, zb_0, zb_fit, zb_fit0, zb_fit1, i_one_zero, i_w_in, z_tb0, z_tb1, z_tb2, z_tb3, z_tb4, z_tb5, z_tb6, z_tb7, z_tb8, z_tbl, z_tu0, z_tu1, z_tu2, z_i_62, z_i_63, z_i_86, z_i_88, z_l_Y, z_ui_62, z_ui_63, z_ui_86, z_ui_88, z_ul_Y, z_sz_Y, z_sw_Y, iI_nat, z_ix_t, z_at, Int.add_zero, Int.sub_zero, Int.zero_add, Int.mul_zero, ne_eq, Bool.false_eq_true, Bool.true_eq_false, reduceCtorEq, eq_self, and_true, true_and, and_false, false_and, and_self, not_true_eq_false, not_false_eq_true, decide_true, decide_false, ↓reduceIte, Int.reduceEq, Int.reduceNe, Int.reduceLT, Int.reduceLE, Int.reduceAdd, Int.reduceSub, Int.reduceMul, Int.reduceNeg, Nat.reduceAdd, Nat.reduceEqDiff, Nat.reduceBEq, ↓z_x_eq, z_g_t, z_bI_s, z_bL_s, z_bR_s, z_bV_s, Int.cast_ofNat_Int, beq_self_eq_true, Bool.and_true, Bool.true_and, Bool.and_self, Bool.or_true, Bool.true_or, Bool.false_and, Bool.and_false, Bool.false_or, Bool.or_false, Bool.not_false, Bool.not_true, if_true, if_false, ite_true, ite_false, z_up_eq, z_up_app, z_ro_eq, h16]
  | o :: P, C, G, h, he, hl, hn => by
    have hl' : P.length + 1 ≤ 160 := hl
    have hn' : w0 + C.length + ((P.length + 1 : Nat) : Int) ≤ 300 := hn
    have h16 : G 80 16 = (P.length : Int) + 1 := by rw [h.1.2.1.1]; show ((P.length + 1 : Nat) : Int) = _; omega
    have h17 := h.1.2.1.2.1
    have h12 := h.1.2.2.1.1
    have h13 := h.1.2.2.1.2.1
    have h1 := h.2.1.1
    have c0 : (0 < (P.length : Int) + 1) = True := eq_true (by omega)
    have ex : (P.length : Int) + 1 - 1 = P.length := by omega
    have rk := fun σ => p_rank hE (o := o) σ he.1
    have ri := j_rk_in o
    have eo := he.1
    by_cases c : r ≤ j_rk o
    · have c' : (j_rk o < r) = False := eq_false (by omega)
      have o4 : o < 40 := by
        by_cases z : o < 40
        · exact z
        · have := j_rk_op (o := o) (by omega); omega
      have es : j_set r (o :: P) C = j_set r P (C ++ [(o, 0)]) := if_pos c
      have em := p_memit hE T (z_up G 80 (z_ro (G 80) 16 P.length)) s (t0 := t0) (w := w0 + C.length) (by rw [z_up_eq, z_ro_ne _ _ (by omega)]; exact h12) (by rw [z_up_eq, z_ro_ne _ _ (by omega)]; exact h13) ht (by omega) o 0
      rw [z_up_eq, z_up_up, z_up_ne _ _ (show 83 ≠ 80 by omega)] at em
      have ec : t0 + 97 + 2 * (w0 + (C.length : Int)) = t0 + 97 + 2 * w0 + 2 * C.length := by omega
      have hX : z_ro (z_ro (G 83) (t0 + 97 + 2 * (w0 + (C.length : Int))) o) (t0 + 97 + 2 * (w0 + (C.length : Int)) + 1) 0 = n_cd X0 (t0 + 97 + 2 * w0) (C ++ [(o, 0)]) := by
        rw [h.2.2.1, ec, n_cd_app]
      rw [hX] at em
      have lc : ((C ++ [(o, (0 : Int))]).length : Int) = C.length + 1 := by rw [List.length_append, List.length_singleton]; omega
      have pl : n_pl (G 85) P := h.2.1.2
      rw [es]
      have r1 : z_ro (z_ro (G 80) 16 P.length) 13 (w0 + C.length + 1) 16 = P.length := by rw [z_ro_ne _ _ (by omega), z_ro_eq]
      have r2 : z_ro (z_ro (G 80) 16 P.length) 13 (w0 + C.length + 1) 17 = j_cn (o :: P) := by rw [z_ro_ne _ _ (by omega), z_ro_ne _ _ (by omega)]; exact h17
      by_cases c3 : o = 3 ∨ o = 20
      · have cn : (j_cn (o :: P) : Int) = j_cn P + 1 := by rw [j_cn_op (by omega)]; omega
        rw [cn] at r2
        have ex2 : (j_cn P : Int) + 1 - 1 = j_cn P := by omega
        obtain ⟨G', e1, e2⟩ := p_settle_0 hE ht hw hr P (C ++ [(o, 0)]) (z_up (z_up G 80 (z_ro (z_ro (z_ro (G 80) 16 P.length) 13 (w0 + C.length + 1)) 17 (j_cn P))) 83 (n_cd X0 (t0 + 97 + 2 * w0) (C ++ [(o, 0)]))) (n_S_mk h (fun r a b c => by rw [z_up_ne _ _ b, z_up_ne _ _ a]) (fun k a b c d => by rw [z_up_ne _ _ (by omega), z_up_eq, z_ro_ne _ _ c, z_ro_ne _ _ a, z_ro_ne _ _ b]) (by rw [z_up_ne _ _ (by omega), z_up_eq, z_ro_ne _ _ (by omega), z_ro_eq, lc]; omega) (by rw [z_up_ne _ _ (by omega), z_up_eq, z_ro_ne _ _ (by omega)]; exact r1) (by rw [z_up_ne _ _ (by omega), z_up_eq, z_ro_eq]) (by rw [z_up_ne _ _ (by omega), z_up_eq, z_ro_ne _ _ (by omega), z_ro_ne _ _ (by omega), z_ro_ne _ _ (by omega)]; exact h.1.2.1.2.2.1) (by rw [z_up_ne _ _ (by omega), z_up_ne _ _ (by omega)]; exact pl) (z_up_eq _ _ _)) he.2 (by omega) (by rw [lc]; omega)
        refine ⟨G', ?_, e2⟩
        rw [← e1, e_M_settle_0]
        by_cases c4 : o = 3
        · have c4' : (o = 3) = True := eq_true c4
          simp -implicitDefEqProofs (disch := first | assumption | omega | rfl | (simp only [z_up_eq, z_up_app, ↓reduceIte, Nat.reduceEqDiff]; omega)) only [z_lit0, z_lit1, z_lit2, z_litl, iI_add, iI_sub, iI_mul, iI_neg, iI_and, iI_or, iI_xor, iI_shl, iI_shr, iI_ushr, iI_div, iI_b, iI_c, iI_i2l, lI_l2i, lI_add, lI_sub, lI_mul, lI_neg, lI_div, lI_or, lI_and, lI_shl, lI_shr, nI_iI, lg_lt0, lg_gt0, lg_eq0, i_ne0', l_ne0', iI_lt, iI_le, iI_eq, lI_lt, lI_le, lI_eq, zb_0, zb_fit, zb_fit0, zb_fit1, i_one_zero, i_w_in, z_tb0, z_tb1, z_tb2, z_tb3, z_tb4, z_tb5, z_tb6, z_tb7, z_tb8, z_tbl, z_tu0, z_tu1, z_tu2, z_i_62, z_i_63, z_i_86, z_i_88, z_l_Y, z_ui_62, z_ui_63, z_ui_86, z_ui_88, z_ul_Y, z_sz_Y, z_sw_Y, iI_nat, z_ix_t, z_at, Int.add_zero, Int.sub_zero, Int.zero_add, Int.mul_zero, ne_eq, Bool.false_eq_true, Bool.true_eq_false, reduceCtorEq, eq_self, and_true, true_and, and_false, false_and, and_self, not_true_eq_false, not_false_eq_true, decide_true, decide_false, ↓reduceIte, Int.reduceEq, Int.reduceNe, Int.reduceLT, Int.reduceLE, Int.reduceAdd, Int.reduceSub, Int.reduceMul, Int.reduceNeg, Nat.reduceAdd, Nat.reduceEqDiff, Nat.reduceBEq, ↓z_x_eq, z_g_t, z_bI_s, z_bL_s, z_bR_s, z_bV_s, Int.cast_ofNat_Int, beq_self_eq_true, Bool.and_true, Bool.true_and, Bool.and_self, Bool.or_true, Bool.true_or, Bool.false_and, Bool.and_false, Bool.false_or, Bool.or_false, Bool.not_false, Bool.not_true, if_true, if_false, ite_true, ite_false, z_up_eq, z_up_app, z_ro_eq, h16, c0, ex, h1, rk, c', em, r1, r2, ex2, c4', z_up_up, z_up_cm]
        · have c4' : (o = 3) = False := eq_false c4
          have c5' : (o = 20) = True := eq_true (by omega)
          simp -implicitDefEqProofs (disch := first | assumption | omega | rfl | (simp only [z_up_eq, z_up_app, ↓reduceIte, Nat.reduceEqDiff]; omega)) only [z_lit0, z_lit1, z_lit2, z_litl, iI_add, iI_sub, iI_mul, iI_neg, iI_and, iI_or, iI_xor, iI_shl, iI_shr, iI_ushr, iI_div, iI_b, iI_c, iI_i2l, lI_l2i, lI_add, lI_sub, lI_mul, lI_neg, lI_div, lI_or, lI_and, lI_shl, lI_shr, nI_iI, lg_lt0, lg_gt0, lg_eq0, i_ne0', l_ne0', iI_lt, iI_le, iI_eq, lI_lt, lI_le, lI_eq, zb_0, zb_fit, zb_fit0, zb_fit1, i_one_zero, i_w_in, z_tb0, z_tb1, z_tb2, z_tb3, z_tb4, z_tb5, z_tb6, z_tb7, z_tb8, z_tbl, z_tu0, z_tu1, z_tu2, z_i_62, z_i_63, z_i_86, z_i_88, z_l_Y, z_ui_62, z_ui_63, z_ui_86, z_ui_88, z_ul_Y, z_sz_Y, z_sw_Y, iI_nat, z_ix_t, z_at, Int.add_zero, Int.sub_zero, Int.zero_add, Int.mul_zero, ne_eq, Bool.false_eq_true, Bool.true_eq_false, reduceCtorEq, eq_self, and_true, true_and, and_false, false_and, and_self, not_true_eq_false, not_false_eq_true, decide_true, decide_false, ↓reduceIte, Int.reduceEq, Int.reduceNe, Int.reduceLT, Int.reduceLE, Int.reduceAdd, Int.reduceSub, Int.reduceMul, Int.reduceNeg, Nat.reduceAdd, Nat.reduceEqDiff, Nat.reduceBEq, ↓z_x_eq, z_g_t, z_bI_s, z_bL_s, z_bR_s, z_bV_s, Int.cast_ofNat_Int, beq_self_eq_true, Bool.and_true, Bool.true_and, Bool.and_self, Bool.or_true, Bool.true_or, Bool.false_and, Bool.and_false, Bool.false_or, Bool.or_false, Bool.not_false, Bool.not_true, if_true, if_false, ite_true, ite_false, z_up_eq, z_up_app, z_ro_eq, h16, c0, ex, h1, rk, c', em, r1, r2, ex2, c4', c5', z_up_up, z_up_cm]
      · have cn : j_cn (o :: P) = j_cn P := by
          show (if 40 ≤ o ∨ o = 3 ∨ o = 20 then 1 else 0) + j_cn P = j_cn P
          rw [if_neg (by omega)]; omega
        have c4' : (o = 3) = False := eq_false (by omega)
        have c5' : (o = 20) = False := eq_false (by omega)
        obtain ⟨G', e1, e2⟩ := p_settle_0 hE ht hw hr P (C ++ [(o, 0)]) (z_up (z_up G 80 (z_ro (z_ro (G 80) 16 P.length) 13 (w0 + C.length + 1))) 83 (n_cd X0 (t0 + 97 + 2 * w0) (C ++ [(o, 0)]))) (n_S_mk h (fun r a b c => by rw [z_up_ne _ _ b, z_up_ne _ _ a]) (fun k a b c d => by rw [z_up_ne _ _ (by omega), z_up_eq, z_ro_ne _ _ a, z_ro_ne _ _ b]) (by rw [z_up_ne _ _ (by omega), z_up_eq, z_ro_eq, lc]; omega) (by rw [z_up_ne _ _ (by omega), z_up_eq]; exact r1) (by rw [z_up_ne _ _ (by omega), z_up_eq, r2, cn]) (by rw [z_up_ne _ _ (by omega), z_up_eq, z_ro_ne _ _ (by omega), z_ro_ne _ _ (by omega)]; exact h.1.2.1.2.2.1) (by rw [z_up_ne _ _ (by omega), z_up_ne _ _ (by omega)]; exact pl) (z_up_eq _ _ _)) he.2 (by omega) (by rw [lc]; omega)
        refine ⟨G', ?_, e2⟩
        rw [← e1, e_M_settle_0]
        simp -implicitDefEqProofs (disch := first | assumption | omega | rfl | (simp only [z_up_eq, z_up_app, ↓reduceIte, Nat.reduceEqDiff]; omega)) only [z_lit0, z_lit1, z_lit2, z_litl, iI_add, iI_sub, iI_mul, iI_neg, iI_and, iI_or, iI_xor, iI_shl, iI_shr, iI_ushr, iI_div, iI_b, iI_c, iI_i2l, lI_l2i, lI_add, lI_sub, lI_mul, lI_neg, lI_div, lI_or, lI_and, lI_shl, lI_shr, nI_iI, lg_lt0, lg_gt0, lg_eq0, i_ne0', l_ne0', iI_lt, iI_le, iI_eq, lI_lt, lI_le, lI_eq, zb_0, zb_fit, zb_fit0, zb_fit1, i_one_zero, i_w_in, z_tb0, z_tb1, z_tb2, z_tb3, z_tb4, z_tb5, z_tb6, z_tb7, z_tb8, z_tbl, z_tu0, z_tu1, z_tu2, z_i_62, z_i_63, z_i_86, z_i_88, z_l_Y, z_ui_62, z_ui_63, z_ui_86, z_ui_88, z_ul_Y, z_sz_Y, z_sw_Y, iI_nat, z_ix_t, z_at, Int.add_zero, Int.sub_zero, Int.zero_add, Int.mul_zero, ne_eq, Bool.false_eq_true, Bool.true_eq_false, reduceCtorEq, eq_self, and_true, true_and, and_false, false_and, and_self, not_true_eq_false, not_false_eq_true, decide_true, decide_false, ↓reduceIte, Int.reduceEq, Int.reduceNe, Int.reduceLT, Int.reduceLE, Int.reduceAdd, Int.reduceSub, Int.reduceMul, Int.reduceNeg, Nat.reduceAdd, Nat.reduceEqDiff, Nat.reduceBEq, ↓z_x_eq, z_g_t, z_bI_s, z_bL_s, z_bR_s, z_bV_s, Int.cast_ofNat_Int, beq_self_eq_true, Bool.and_true, Bool.true_and, Bool.and_self, Bool.or_true, Bool.true_or, Bool.false_and, Bool.and_false, Bool.false_or, Bool.or_false, Bool.not_false, Bool.not_true, if_true, if_false, ite_true, ite_false, z_up_eq, z_up_app, z_ro_eq, h16, c0, ex, h1, rk, c', em, r1, c4', c5', z_up_up, z_up_cm]
    · have c' : (j_rk o < r) = True := eq_true (by omega)
      have es : j_set r (o :: P) C = (o :: P, C) := if_neg c
      rw [es]
      refine ⟨G, ?_, h⟩
      rw [e_M_settle_0]
      simp -implicitDefEqProofs (disch := first | assumption | omega | rfl | (simp only [z_up_eq, z_up_app, ↓reduceIte, Nat.reduceEqDiff]; omega)) only [z_lit0, z_lit1, z_lit2, z_litl, iI_add, iI_sub, iI_mul, iI_neg, iI_and, iI_or, iI_xor, iI_shl, iI_shr, iI_ushr, iI_div, iI_b, iI_c, iI_i2l, lI_l2i, lI_add, lI_sub, lI_mul, lI_neg, lI_div, lI_or, lI_and, lI_shl, lI_shr, nI_iI, lg_lt0, lg_gt0, lg_eq0, i_ne0', l_ne0', iI_lt, iI_le, iI_eq, lI_lt, lI_le, lI_eq, zb_0, zb_fit, zb_fit0, zb_fit1, i_one_zero, i_w_in, z_tb0, z_tb1, z_tb2, z_tb3, z_tb4, z_tb5, z_tb6, z_tb7, z_tb8, z_tbl, z_tu0, z_tu1, z_tu2, z_i_62, z_i_63, z_i_86, z_i_88, z_l_Y, z_ui_62, z_ui_63, z_ui_86, z_ui_88, z_ul_Y, z_sz_Y, z_sw_Y, iI_nat, z_ix_t, z_at, Int.add_zero, Int.sub_zero, Int.zero_add, Int.mul_zero, ne_eq, Bool.false_eq_true, Bool.true_eq_false, reduceCtorEq, eq_self, and_true, true_and, and_false, false_and, and_self, not_true_eq_false, not_false_eq_true, decide_true, decide_false, ↓reduceIte, Int.reduceEq, Int.reduceNe, Int.reduceLT, Int.reduceLE, Int.reduceAdd, Int.reduceSub, Int.reduceMul, Int.reduceNeg, Nat.reduceAdd, Nat.reduceEqDiff, Nat.reduceBEq, ↓z_x_eq, z_g_t, z_bI_s, z_bL_s, z_bR_s, z_bV_s, Int.cast_ofNat_Int, beq_self_eq_true, Bool.and_true, Bool.true_and, Bool.and_self, Bool.or_true, Bool.true_or, Bool.false_and, Bool.and_false, Bool.false_or, Bool.or_false, Bool.not_false, Bool.not_true, if_true, if_false, ite_true, ite_false, z_up_eq, z_up_app, z_ro_eq, h16, c0, ex, h1, rk, c']
theorem p_settle {E : Nat} (hE : 2 ≤ E) (ht : 0 ≤ t0 ∧ t0 ≤ 2115) (hw : 0 ≤ w0) {r : Int} (hr : 1 ≤ r ∧ r ≤ 7) {wh : Bool} {j : Nat} {w : Int} {P : List Int} {C : List (Int × Int)} {G : ZG} (h : n_S B L t0 w0 q e G0 X0 P wh j C G w) (he : n_el P) (hl : P.length ≤ 160) (hn : w0 + C.length + P.length ≤ 300) : ∃ G', z_call E 96 [vr 80, vi (iI r)] (z_Y T G s) = some (vi (iI 0), z_Y T G' s) ∧ n_S B L t0 w0 q e G0 X0 (j_set r P C).1 wh j (j_set r P C).2 G' w := by
  obtain ⟨d, rfl⟩ : ∃ d, E = d + 1 := ⟨E - 1, by omega⟩
  obtain ⟨G', e1, e2⟩ := p_settle_0 (T := T) (s := s) (E := d) (by omega) ht hw hr P C G h he hl hn
  refine ⟨G', ?_, e2⟩
  rw [← e1, e_M_settle, e_M_settle_0]
end
/-! what the pile keeps to -/
def n_gd : List Int → Prop
  | [] => True
  | o :: P => (o < 40 ∧ o ≠ 3 ∧ o ≠ 20 → j_tp P < j_rk o) ∧ n_gd P
theorem n_len : ∀ (P : List Int), n_gd P → (P.length : Int) ≤ 8 * j_cn P + 6 ∧ (match P with | [] => True | o :: _ => (40 ≤ o ∨ o = 3 ∨ o = 20 → (P.length : Int) ≤ 8 * j_cn P) ∧ ((o < 40 ∧ o ≠ 3 ∧ o ≠ 20) → (P.length : Int) ≤ 8 * j_cn P + j_rk o ∧ j_rk o ≤ 6))
  | [], _ => ⟨by show ((0 : Nat) : Int) ≤ 8 * ((0 : Nat) : Int) + 6; omega, trivial⟩
  | o :: P, ⟨h1, h2⟩ => by
    have ih := n_len P h2
    have el : ((o :: P).length : Int) = P.length + 1 := by show ((P.length + 1 : Nat) : Int) = _; omega
    have ri := j_rk_in o
    rw [el]
    by_cases c : 40 ≤ o ∨ o = 3 ∨ o = 20
    · have cn : (j_cn (o :: P) : Int) = j_cn P + 1 := by rw [j_cn_op c]; omega
      rw [cn]
      exact ⟨by omega, fun _ => by omega, fun q => by omega⟩
    · have cn : j_cn (o :: P) = j_cn P := by
        show (if 40 ≤ o ∨ o = 3 ∨ o = 20 then 1 else 0) + j_cn P = j_cn P
        rw [if_neg c]; omega
      have r6 : j_rk o ≤ 6 := by
        unfold j_rk
        repeat' split
        all_goals omega
      rw [cn]
      have lt := h1 (by omega)
      have key : (P.length : Int) + 1 ≤ 8 * j_cn P + j_rk o := by
        cases P with
        | nil =>
          have : j_rk o ≠ 0 := fun z => by
            unfold j_rk at z
            repeat' split at z
            all_goals omega
          show ((0 : Nat) : Int) + 1 ≤ 8 * ((0 : Nat) : Int) + j_rk o
          omega
        | cons p P =>
          have lt' : j_rk p < j_rk o := lt
          have rp := j_rk_in p
          have ih2 := ih.2
          by_cases d : 40 ≤ p ∨ p = 3 ∨ p = 20
          · have := ih2.1 d; omega
          · have := ih2.2 (by omega); omega
      exact ⟨by omega, fun q => absurd q c, fun _ => ⟨key, r6⟩⟩
theorem n_len160 {P : List Int} (h : n_gd P) (hc : j_cn P ≤ 8) : P.length ≤ 70 := by
  have := (n_len P h).1
  omega
theorem n_set {r : Int} (hr : 1 ≤ r) : ∀ (P : List Int) (C : List (Int × Int)), n_el P → n_gd P → n_el (j_set r P C).1 ∧ n_gd (j_set r P C).1 ∧ j_cn (j_set r P C).1 ≤ j_cn P ∧ j_tp (j_set r P C).1 < r ∧ (j_set r P C).1.length + (j_set r P C).2.length = P.length + C.length
  | [], C, h1, h2 => ⟨h1, h2, Nat.le_refl _, by show (-1 : Int) < r; omega, rfl⟩
  | o :: P, C, h1, h2 => by
    by_cases c : r ≤ j_rk o
    · have es : j_set r (o :: P) C = j_set r P (C ++ [(o, 0)]) := if_pos c
      rw [es]
      have ih := n_set hr P (C ++ [(o, 0)]) h1.2 h2.2
      have cn : j_cn P ≤ j_cn (o :: P) := Nat.le_add_left _ _
      refine ⟨ih.1, ih.2.1, by omega, ih.2.2.2.1, ?_⟩
      rw [ih.2.2.2.2, List.length_append, List.length_singleton]
      show P.length + (C.length + 1) = P.length + 1 + C.length
      omega
    · have es : j_set r (o :: P) C = (o :: P, C) := if_neg c
      rw [es]
      exact ⟨h1, h2, Nat.le_refl _, by show j_rk o < r; omega, rfl⟩
/-- down to what stands open -/
theorem n_set1 : ∀ (P : List Int) (C : List (Int × Int)), 0 ≤ j_op P → n_el P → ∃ Q, (j_set 1 P C).1 = j_op P :: Q
  | [], _, h, _ => by have h' : (0 : Int) ≤ -1 := h; omega
  | o :: P, C, h, he => by
    have h' : 0 ≤ if o < 40 then j_op P else o := h
    show ∃ Q, (j_set 1 (o :: P) C).1 = (if o < 40 then j_op P else o) :: Q
    by_cases c : o < 40
    · rw [if_pos c] at h' ⊢
      have rk : 1 ≤ j_rk o := by
        have e0 := he.1
        unfold j_rk
        repeat' split
        all_goals omega
      have es : j_set 1 (o :: P) C = j_set 1 P (C ++ [(o, 0)]) := if_pos rk
      rw [es]
      exact n_set1 P _ h' he.2
    · rw [if_neg c]
      have es : j_set 1 (o :: P) C = (o :: P, C) := if_neg (by rw [j_rk_op (by omega)]; omega)
      rw [es]
      exact ⟨P, rfl⟩

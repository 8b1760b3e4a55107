/-! THE PURE PART, 71: a duel, the pair of calls -/
theorem p_fight (d : Nat) (T : ZT) (G : ZG) (s : ZG × ZG) {c b1 b2 no : Int} {f g : Nat} (y : Bool) (hQ : c_q T G) (hask : z_ask G c) (hc : 0 ≤ c ∧ c ≤ 601) (hno : 0 ≤ no ∧ no < G 81 2) (hb1 : 0 ≤ b1 ∧ b1 ≤ 3) (hb2 : 0 ≤ b2 ∧ b2 ≤ 3) (hf : (f : Int) = s_cn (G 81) b1) (hg : (g : Int) = s_cn (G 81) b2) : ∃ G1 s1, z_call (d + 7) 289 [vr 70, vi (iI b1), vi (iI b2), vi (iI no), vi (iI (zb y))] (z_Y T G s) = some (vi (iI (g_an (g_hs (G 81) (G 83) (g_D (G 81) b1 b2) (f + g) no) f (f + g) (g_D (G 81) b1 b2) y)), z_Y T G1 s1) ∧ g_c G c G1 := by
  have hM := hQ.1.1
  have m2 := hM.2.2.1
  have c1 := s_cn_in (G 81) b1
  have c2 := s_cn_in (G 81) b2
  have nb := (dw_n hQ.1 no hno.1 hno.2).1
  have mn := mo_n hM no hno.1 hno.2
  have q : ∀ k : Nat, k ≤ 5 → (1 : Int) ≤ 2 ^ k ∧ (2 : Int) ^ k ≤ 32 := by decide
  have pf := q f (by omega)
  have pg := q g (by omega)
  have a0 := m_air0_in (X := G 83) (b := G 81 (82 + 2 * no)) hM
  obtain ⟨v, τ, e1, rfl, s1, rfl⟩ := p_cair (d + 1) T G s (b := G 81 (82 + 2 * no)) hQ (by omega)
  have e2 := p_askOf (d + 5) T G s1 (n := no)
  have hv0 := v_new hask hc.2 hno
  generalize hR : z_ro (z_ro (G 61) 5 (G 61 5 + 1)) 6 no = R61 at *
  have r5 : R61 5 = G 61 5 + 1 := by rw [← hR, z_ro_ne _ _ (by omega), z_ro_eq]
  have u81 : z_up G 61 R61 81 = G 81 := z_up_ne _ _ (by omega)
  have u83 : z_up G 61 R61 83 = G 83 := z_up_ne _ _ (by omega)
  have u64 : z_up G 61 R61 64 = G 64 := z_up_ne _ _ (by omega)
  have hQ1 : c_q T (z_up G 61 R61) := cq_eq hQ (fun r a => z_up_ne _ _ (by omega))
  obtain ⟨V1, s2, e3, hv1⟩ := p_wouldA (d + 2) T (z_up G 61 R61) s1 (n := no) (ai := m_air0 (G 81) (G 83) (G 81 (82 + 2 * no))) hQ1 (by rw [u64]; exact hv0) (by omega)
  rw [u81, u83] at e3
  have eh0 : g_hs (G 81) (G 83) (g_D (G 81) b1 b2) (f + g) no 0 = m_holds (G 81) (G 83) (G 81 6) no (m_air0 (G 81) (G 83) (G 81 (82 + 2 * no))) (G 81 (82 + 2 * no)) := by
    unfold g_hs
    rw [g_su_0 (by omega), Int.add_zero]
  -- the world behind: only the rows of the game, and what was asked
  have world : ∀ (V : Int → Int) (G1 : ZG), v_ok (z_up G 61 R61) no V → (∀ r, r ≠ 61 → r ≠ 64 → ¬ (71 ≤ r ∧ r ≤ 79) → G1 r = G r) → G1 61 = R61 → G1 64 = V → g_c G c G1 := by
    intro V G1 hv n1 e61 e64
    refine ⟨n1, ?_⟩
    unfold z_ask
    rw [e61, e64, r5]
    have h3 := hv.2.2.2
    rw [z_up_eq, r5] at h3
    exact ⟨by have := hask.1; omega, by have := hask.2.1; omega, fun i a b => (h3 i a b).1⟩
  cases hh : m_holds (G 81) (G 83) (G 81 6) no (m_air0 (G 81) (G 83) (G 81 (82 + 2 * no))) (G 81 (82 + 2 * no))
  · rw [hh] at e3 eh0
    refine ⟨z_up (z_up G 61 R61) 64 V1, s2, ?_, world V1 _ hv1 (fun r a b _ => by rw [z_up_ne _ _ b, z_up_ne _ _ a]) (by rw [z_up_ne _ _ (by omega), z_up_eq]) (z_up_eq _ _ _)⟩
    have ea : g_an (g_hs (G 81) (G 83) (g_D (G 81) b1 b2) (f + g) no) f (f + g) (g_D (G 81) b1 b2) y = cond y (-1) 0 := by
      unfold g_an; rw [eh0]; cases y <;> simp
    rw [ea, e_Ga_fight]
    cases y
    · simp -implicitDefEqProofs (disch := first | assumption | omega | rfl | (simp only [z_up_eq, z_up_app, ↓reduceIte, Nat.reduceEqDiff]; omega)) only [z_lit0, z_lit1, z_lit2, z_litl, iI_add, iI_sub, iI_mul, iI_neg, iI_and, iI_or, iI_xor, iI_shl, iI_shr, iI_ushr, iI_div, iI_b, iI_c, iI_i2l, lI_l2i, lI_add, lI_sub, lI_mul, lI_neg, lI_div, lI_or, lI_and, lI_shl, lI_shr, nI_iI, lg_lt0, lg_gt0, lg_eq0, i_ne0', l_ne0', iI_lt, iI_le, iI_eq, lI_lt, lI_le, lI_eq, zb_0, zb_fit, zb_fit0, zb_fit1, i_one_zero, i_w_in, z_tb0, z_tb1, z_tb2, z_tb3, z_tb4, z_tb5, z_tb6, z_tb7, z_tb8, z_tbl, z_tu0, z_tu1, z_tu2, z_i_62, z_i_63, z_i_86, z_i_88, z_l_Y, z_ui_62, z_ui_63, z_ui_86, z_ui_88, z_ul_Y, z_sz_Y, z_sw_Y, iI_nat, z_ix_t, z_at, Int.add_zero, Int.sub_zero, Int.zero_add, Int.mul_zero, ne_eq, Bool.false_eq_true, Bool.true_eq_false, reduceCtorEq, eq_self, and_true, true_and, and_false, false_and, and_self, not_true_eq_false, not_false_eq_true, decide_true, decide_false, ↓reduceIte, Int.reduceEq, Int.reduceNe, Int.reduceLT, Int.reduceLE, Int.reduceAdd, Int.reduceSub, Int.reduceMul, Int.reduceNeg, Nat.reduceAdd, Nat.reduceEqDiff, Nat.reduceBEq, ↓z_x_eq, z_g_t, z_bI_s, z_bL_s, z_bR_s, z_bV_s, Int.cast_ofNat_Int, beq_self_eq_true, Bool.and_true, Bool.true_and, Bool.and_self, Bool.or_true, Bool.true_or, Bool.false_and, Bool.and_false, Bool.false_or, Bool.or_false, Bool.not_false, Bool.not_true, if_true, if_false, ite_true, ite_false, z_up_eq, z_up_app, z_ro_eq, nb, e1, e2, e3, zb_f]
      rfl
    · simp -implicitDefEqProofs (disch := first | assumption | omega | rfl | (simp only [z_up_eq, z_up_app, ↓reduceIte, Nat.reduceEqDiff]; omega)) only [z_lit0, z_lit1, z_lit2, z_litl, iI_add, iI_sub, iI_mul, iI_neg, iI_and, iI_or, iI_xor, iI_shl, iI_shr, iI_ushr, iI_div, iI_b, iI_c, iI_i2l, lI_l2i, lI_add, lI_sub, lI_mul, lI_neg, lI_div, lI_or, lI_and, lI_shl, lI_shr, nI_iI, lg_lt0, lg_gt0, lg_eq0, i_ne0', l_ne0', iI_lt, iI_le, iI_eq, lI_lt, lI_le, lI_eq, zb_0, zb_fit, zb_fit0, zb_fit1, i_one_zero, i_w_in, z_tb0, z_tb1, z_tb2, z_tb3, z_tb4, z_tb5, z_tb6, z_tb7, z_tb8, z_tbl, z_tu0, z_tu1, z_tu2, z_i_62, z_i_63, z_i_86, z_i_88, z_l_Y, z_ui_62, z_ui_63, z_ui_86, z_ui_88, z_ul_Y, z_sz_Y, z_sw_Y, iI_nat, z_ix_t, z_at, Int.add_zero, Int.sub_zero, Int.zero_add, Int.mul_zero, ne_eq, Bool.false_eq_true, Bool.true_eq_false, reduceCtorEq, eq_self, and_true, true_and, and_false, false_and, and_self, not_true_eq_false, not_false_eq_true, decide_true, decide_false, ↓reduceIte, Int.reduceEq, Int.reduceNe, Int.reduceLT, Int.reduceLE, Int.reduceAdd, Int.reduceSub, Int.reduceMul, Int.reduceNeg, Nat.reduceAdd, Nat.reduceEqDiff, Nat.reduceBEq, ↓z_x_eq, z_g_t, z_bI_s, z_bL_s, z_bR_s, z_bV_s, Int.cast_ofNat_Int, beq_self_eq_true, Bool.and_true, Bool.true_and, Bool.and_self, Bool.or_true, Bool.true_or, Bool.false_and, Bool.and_false, Bool.false_or, Bool.or_false, Bool.not_false, Bool.not_true, if_true, if_false, ite_true, ite_false, z_up_eq, z_up_app, z_ro_eq, nb, e1, e2, e3, zb_f, zb_t]
      rfl
  · rw [hh] at e3 eh0
    have w81 : z_up (z_up G 61 R61) 64 V1 81 = G 81 := by rw [z_up_ne _ _ (by omega)]; exact u81
    have w83 : z_up (z_up G 61 R61) 64 V1 83 = G 83 := by rw [z_up_ne _ _ (by omega)]; exact u83
    have nA : ∀ r, r ≠ 61 → r ≠ 64 → z_up (z_up G 61 R61) 64 V1 r = G r := fun r a b => by rw [z_up_ne _ _ b, z_up_ne _ _ a]
    have n61 : z_up (z_up G 61 R61) 64 V1 61 = R61 := by rw [z_up_ne _ _ (by omega), z_up_eq]
    have n64 : z_up (z_up G 61 R61) 64 V1 64 = V1 := z_up_eq _ _ _
    generalize z_up (z_up G 61 R61) 64 V1 = G2 at *
    have hQ2 : c_q T G2 := cq_eq hQ (fun r a => nA r (by omega) (by omega))
    obtain ⟨W2, B2, s3, e4, k4, k5⟩ := p_side_78 d T G2 s2 (bl := b2) (be := G 81 (82 + 2 * no)) hQ2 (by omega) ⟨by omega, by omega⟩
    rw [w81, w83] at k5
    rw [w81] at e4 k4
    have nB : ∀ r, r ≠ 76 → r ≠ 78 → z_up (z_up G2 76 W2) 78 B2 r = G2 r := fun r a b => by rw [z_up_ne _ _ b, z_up_ne _ _ a]
    have b78 : z_up (z_up G2 76 W2) 78 B2 78 = B2 := z_up_eq _ _ _
    generalize z_up (z_up G2 76 W2) 78 B2 = G3 at *
    have x81 := (nB 81 (by omega) (by omega)).trans w81
    have x83 := (nB 83 (by omega) (by omega)).trans w83
    have hQ3 : c_q T G3 := cq_eq hQ2 (fun r a => nB r (by omega) (by omega))
    obtain ⟨W1, B1, s4, e5, k6, k7⟩ := p_side_77 d T G3 s3 (bl := b1) (be := G 81 (82 + 2 * no)) hQ3 (by omega) ⟨by omega, by omega⟩
    rw [x81, x83] at k7
    rw [x81] at e5 k6
    have nC : ∀ r, r ≠ 71 → r ≠ 77 → z_up (z_up G3 71 W1) 77 B1 r = G3 r := fun r a b => by rw [z_up_ne _ _ b, z_up_ne _ _ a]
    have c77 : z_up (z_up G3 71 W1) 77 B1 77 = B1 := z_up_eq _ _ _
    have c71 : z_up (z_up G3 71 W1) 77 B1 71 = W1 := by rw [z_up_ne _ _ (by omega), z_up_eq]
    generalize z_up (z_up G3 71 W1) 77 B1 = G4 at *
    have y81 := (nC 81 (by omega) (by omega)).trans x81
    have y83 := (nC 83 (by omega) (by omega)).trans x83
    have y78 := (nC 78 (by omega) (by omega)).trans b78
    have y64 := ((nC 64 (by omega) (by omega)).trans (nB 64 (by omega) (by omega))).trans n64
    have y61 := ((nC 61 (by omega) (by omega)).trans (nB 61 (by omega) (by omega))).trans n61
    have hQ4 : c_q T G4 := cq_eq hQ3 (fun r a => nC r (by omega) (by omega))
    have hv4 : v_ok G4 no V1 := v_ok_eq hv1 (y61.trans (z_up_eq _ _ _).symm) (y81.trans u81.symm) (y83.trans u83.symm)
    have fN : (s_cn (G 81) b1).toNat = f := by omega
    have gN : (s_cn (G 81) b2).toNat = g := by omega
    rw [fN] at k7
    rw [gN] at k5
    have elF := s_li_el hM b1
    have elS := s_li_el hM b2
    have hai : ∀ a' b' : Int, 0 ≤ a' → a' < 2 ^ f → 0 ≤ b' → b' < 2 ^ g → -1000 ≤ m_air0 (G 81) (G 83) (G 81 (82 + 2 * no)) + G4 77 a' + G4 78 b' ∧ m_air0 (G 81) (G 83) (G 81 (82 + 2 * no)) + G4 77 a' + G4 78 b' ≤ 1000 := fun a' b' r1 r2 r3 r4 => by
      rw [c77, y78, k7 a' r1 r2, k5 b' r3 r4]
      have h1 := g_su_in (X := G 83) (D := s_li (G 81) b1) (b := G 81 (82 + 2 * no)) (n := f) (s := a') hM (by omega) (fun k t1 t2 => ⟨(elF.1 k t1 (by omega)).1, (elF.1 k t1 (by omega)).2.1⟩)
      have h2 := g_su_in (X := G 83) (D := s_li (G 81) b2) (b := G 81 (82 + 2 * no)) (n := g) (s := b') hM (by omega) (fun k t1 t2 => ⟨(elS.1 k t1 (by omega)).1, (elS.1 k t1 (by omega)).2.1⟩)
      omega
    have hH : ∀ a' b' : Int, 0 ≤ a' → a' < 2 ^ f → 0 ≤ b' → b' < 2 ^ g → m_holds (G4 81) (G4 83) (G4 81 6) no (m_air0 (G 81) (G 83) (G 81 (82 + 2 * no)) + G4 77 a' + G4 78 b') (G4 81 (82 + 2 * no)) = g_hs (G 81) (G 83) (g_D (G 81) b1 b2) (f + g) no (a' + 2 ^ f * b') := fun a' b' r1 r2 r3 r4 => by
      rw [c77, y78, k7 a' r1 r2, k5 b' r3 r4, y81, y83]
      unfold g_hs
      rw [g_su_spl (D := g_D (G 81) b1 b2) (F := s_li (G 81) b1) (S := s_li (G 81) b2) (by omega) (by omega) (fun k t1 t2 => if_pos (by omega)) (fun k t1 t2 => by
        unfold g_D
        rw [if_neg (by omega), show (f : Int) + k - s_cn (G 81) b1 = k by omega]) ⟨r1, r2⟩ (g_b32 (by omega) ⟨r3, r4⟩), Int.add_assoc]
    generalize g_hs (G 81) (G 83) (g_D (G 81) b1 b2) (f + g) no = hs at *
    have eu : z_up (z_up G4 64 V1) 79 (G4 79) = G4 := by
      rw [z_up_self (show V1 = G4 64 from y64.symm)]; exact z_up_id _ _
    obtain ⟨V2, W3, s5, e6, hv5, hi5⟩ := p_fi_95 (d + 1) T G4 (no := no) (air := m_air0 (G 81) (G 83) (G 81 (82 + 2 * no))) (f := f) (g := g) (hs := hs) (y := zb y) hQ4 (by omega) (by omega) hai hH (2 ^ f) (2 ^ f - 1) V1 (G4 79) s4 (by simp) (by omega) hv4 ⟨fun a' b' r1 r2 r3 r4 r5 => by omega, fun b' r1 r2 => by omega⟩
    rw [eu] at e6
    obtain ⟨V3, s6, e7, hv6⟩ := p_fm (d + 1) T G4 (no := no) (a := 0) (b := 0) (air := m_air0 (G 81) (G 83) (G 81 (82 + 2 * no))) (f := f) (W := W3) hQ4 (by omega) ⟨by omega, by omega⟩ ⟨by omega, by omega⟩ (fun a' r1 r2 => hai a' 0 r1 r2 (by omega) (by omega)) f 0 V2 s5 (by omega) (by omega) hv5
    rw [z_find_eq f 0 (fun i q1 q2 => g_gd_f (hs := hs) (V := g_V hs f (f + g)) (H := fun a' b' => m_holds (G4 81) (G4 83) (G4 81 6) no (m_air0 (G 81) (G 83) (G 81 (82 + 2 * no)) + G4 77 a' + G4 78 b') (G4 81 (82 + 2 * no))) (W := W3) (by omega) (by omega) ⟨(by omega : (0 : Int) ≤ 0), by omega⟩ ⟨(by omega : (0 : Int) ≤ 0), (by omega : (0 : Int) < 2 ^ g)⟩ ⟨q1, by omega⟩ (fun a' r1 r2 => hH a' 0 r1 r2 (by omega) (by omega)) (fun a' r1 r2 r3 => hi5.1 a' 0 (by omega) r2 (by omega) (by omega) (Or.inl r1) 1 (Or.inr rfl) (by omega))), Int.mul_zero, Int.add_zero] at e7
    rw [g_an_c (by omega) (by omega) eh0]
    have fi := z_find_in (g_gd hs f (g_V hs f (f + g)) 0 0) f 0
    generalize z_find f 0 (g_gd hs f (g_V hs f (f + g)) 0 0) = mv at *
    have nD : ∀ r, r ≠ 64 → r ≠ 79 → z_up (z_up G4 64 V3) 79 W3 r = G4 r := fun r a b => by rw [z_up_ne _ _ b, z_up_ne _ _ a]
    have d64 : z_up (z_up G4 64 V3) 79 W3 64 = V3 := by rw [z_up_ne _ _ (by omega), z_up_eq]
    refine ⟨z_up (z_up G4 64 V3) 79 W3, s6, ?_, world V3 _ (v_ok_eq hv6 ((z_up_eq _ _ _).trans y61.symm) (u81.trans y81.symm) (u83.trans y83.symm)) (fun r a b e => by rw [nD r b (by omega), nC r (by omega) (by omega), nB r (by omega) (by omega), nA r a b]) ((nD 61 (by omega) (by omega)).trans y61) d64⟩
    have d71 := (nD 71 (by omega) (by omega)).trans c71
    generalize z_up (z_up G4 64 V3) 79 W3 = G5 at *
    have es := i_shl1 f (by omega)
    have fin : z_w d_Ga_fight (z_call (d + 6)) 95 [some (vr 70), none, none, none, some (vi (iI (zb y))), none, some (vi (iI (m_air0 (G 81) (G 83) (G 81 (82 + 2 * no))))), some (vi (iI g)), some (vi (iI f)), some (vi (iI (-1))), none, none] [] (z_Y T (z_up (z_up G4 64 V2) 79 W3) s5) = some (vi (iI (cond y (if mv = -1 then -1 else g_D (G 81) b1 b2 mv) (if mv = -1 then 0 else 1))), z_Y T G5 s6) := by
      rw [e_Ga_fight_95]
      by_cases cm : mv = -1
      · have cm' : (mv = -1) = True := eq_true cm
        rw [cm] at e7
        cases y
        · simp -implicitDefEqProofs (disch := first | assumption | omega | rfl | (simp only [z_up_eq, z_up_app, ↓reduceIte, Nat.reduceEqDiff]; omega)) only [z_lit0, z_lit1, z_lit2, z_litl, iI_add, iI_sub, iI_mul, iI_neg, iI_and, iI_or, iI_xor, iI_shl, iI_shr, iI_ushr, iI_div, iI_b, iI_c, iI_i2l, lI_l2i, lI_add, lI_sub, lI_mul, lI_neg, lI_div, lI_or, lI_and, lI_shl, lI_shr, nI_iI, lg_lt0, lg_gt0, lg_eq0, i_ne0', l_ne0', iI_lt, iI_le, iI_eq, lI_lt, lI_le, lI_eq, zb_0, zb_fit, zb_fit0, zb_fit1, i_one_zero, i_w_in, z_tb0, z_tb1, z_tb2, z_tb3, z_tb4, z_tb5, z_tb6, z_tb7, z_tb8, z_tbl, z_tu0, z_tu1, z_tu2, z_i_62, z_i_63, z_i_86, z_i_88, z_l_Y, z_ui_62, z_ui_63, z_ui_86, z_ui_88, z_ul_Y, z_sz_Y, z_sw_Y, iI_nat, z_ix_t, z_at, Int.add_zero, Int.sub_zero, Int.zero_add, Int.mul_zero, ne_eq, Bool.false_eq_true, Bool.true_eq_false, reduceCtorEq, eq_self, and_true, true_and, and_false, false_and, and_self, not_true_eq_false, not_false_eq_true, decide_true, decide_false, ↓reduceIte, Int.reduceEq, Int.reduceNe, Int.reduceLT, Int.reduceLE, Int.reduceAdd, Int.reduceSub, Int.reduceMul, Int.reduceNeg, Nat.reduceAdd, Nat.reduceEqDiff, Nat.reduceBEq, ↓z_x_eq, z_g_t, z_bI_s, z_bL_s, z_bR_s, z_bV_s, Int.cast_ofNat_Int, beq_self_eq_true, Bool.and_true, Bool.true_and, Bool.and_self, Bool.or_true, Bool.true_or, Bool.false_and, Bool.and_false, Bool.false_or, Bool.or_false, Bool.not_false, Bool.not_true, if_true, if_false, ite_true, ite_false, z_up_eq, z_up_app, z_ro_eq, e_Ga_firstMove, e7, zb_f, cm']
          rfl
        · simp -implicitDefEqProofs (disch := first | assumption | omega | rfl | (simp only [z_up_eq, z_up_app, ↓reduceIte, Nat.reduceEqDiff]; omega)) only [z_lit0, z_lit1, z_lit2, z_litl, iI_add, iI_sub, iI_mul, iI_neg, iI_and, iI_or, iI_xor, iI_shl, iI_shr, iI_ushr, iI_div, iI_b, iI_c, iI_i2l, lI_l2i, lI_add, lI_sub, lI_mul, lI_neg, lI_div, lI_or, lI_and, lI_shl, lI_shr, nI_iI, lg_lt0, lg_gt0, lg_eq0, i_ne0', l_ne0', iI_lt, iI_le, iI_eq, lI_lt, lI_le, lI_eq, zb_0, zb_fit, zb_fit0, zb_fit1, i_one_zero, i_w_in, z_tb0, z_tb1, z_tb2, z_tb3, z_tb4, z_tb5, z_tb6, z_tb7, z_tb8, z_tbl, z_tu0, z_tu1, z_tu2, z_i_62, z_i_63, z_i_86, z_i_88, z_l_Y, z_ui_62, z_ui_63, z_ui_86, z_ui_88, z_ul_Y, z_sz_Y, z_sw_Y, iI_nat, z_ix_t, z_at, Int.add_zero, Int.sub_zero, Int.zero_add, Int.mul_zero, ne_eq, Bool.false_eq_true, Bool.true_eq_false, reduceCtorEq, eq_self, and_true, true_and, and_false, false_and, and_self, not_true_eq_false, not_false_eq_true, decide_true, decide_false, ↓reduceIte, Int.reduceEq, Int.reduceNe, Int.reduceLT, Int.reduceLE, Int.reduceAdd, Int.reduceSub, Int.reduceMul, Int.reduceNeg, Nat.reduceAdd, Nat.reduceEqDiff, Nat.reduceBEq, ↓z_x_eq, z_g_t, z_bI_s, z_bL_s, z_bR_s, z_bV_s, Int.cast_ofNat_Int, beq_self_eq_true, Bool.and_true, Bool.true_and, Bool.and_self, Bool.or_true, Bool.true_or, Bool.false_and, Bool.and_false, Bool.false_or, Bool.or_false, Bool.not_false, Bool.not_true, if_true, if_false, ite_true, ite_false, z_up_eq, z_up_app, z_ro_eq, e_Ga_firstMove, e7, zb_t, cm']
          rfl
      · have cm' : (mv = -1) = False := eq_false cm
        have em : W1 mv = g_D (G 81) b1 b2 mv := by
          rw [k6 mv (by omega) (by omega)]
          exact (if_pos (by omega)).symm
        cases y
        · simp -implicitDefEqProofs (disch := first | assumption | omega | rfl | (simp only [z_up_eq, z_up_app, ↓reduceIte, Nat.reduceEqDiff]; omega)) only [z_lit0, z_lit1, z_lit2, z_litl, iI_add, iI_sub, iI_mul, iI_neg, iI_and, iI_or, iI_xor, iI_shl, iI_shr, iI_ushr, iI_div, iI_b, iI_c, iI_i2l, lI_l2i, lI_add, lI_sub, lI_mul, lI_neg, lI_div, lI_or, lI_and, lI_shl, lI_shr, nI_iI, lg_lt0, lg_gt0, lg_eq0, i_ne0', l_ne0', iI_lt, iI_le, iI_eq, lI_lt, lI_le, lI_eq, zb_0, zb_fit, zb_fit0, zb_fit1, i_one_zero, i_w_in, z_tb0, z_tb1, z_tb2, z_tb3, z_tb4, z_tb5, z_tb6, z_tb7, z_tb8, z_tbl, z_tu0, z_tu1, z_tu2, z_i_62, z_i_63, z_i_86, z_i_88, z_l_Y, z_ui_62, z_ui_63, z_ui_86, z_ui_88, z_ul_Y, z_sz_Y, z_sw_Y, iI_nat, z_ix_t, z_at, Int.add_zero, Int.sub_zero, Int.zero_add, Int.mul_zero, ne_eq, Bool.false_eq_true, Bool.true_eq_false, reduceCtorEq, eq_self, and_true, true_and, and_false, false_and, and_self, not_true_eq_false, not_false_eq_true, decide_true, decide_false, ↓reduceIte, Int.reduceEq, Int.reduceNe, Int.reduceLT, Int.reduceLE, Int.reduceAdd, Int.reduceSub, Int.reduceMul, Int.reduceNeg, Nat.reduceAdd, Nat.reduceEqDiff, Nat.reduceBEq, ↓z_x_eq, z_g_t, z_bI_s, z_bL_s, z_bR_s, z_bV_s, Int.cast_ofNat_Int, beq_self_eq_true, Bool.and_true, Bool.true_and, Bool.and_self, Bool.or_true, Bool.true_or, Bool.false_and, Bool.and_false, Bool.false_or, Bool.or_false, Bool.not_false, Bool.not_true, if_true, if_false, ite_true, ite_false, z_up_eq, z_up_app, z_ro_eq, e_Ga_firstMove, e7, zb_f, cm']
          rfl
        · simp -implicitDefEqProofs (disch := first | assumption | omega | rfl | (simp only [z_up_eq, z_up_app, ↓reduceIte, Nat.reduceEqDiff]; omega)) only [z_lit0, z_lit1, z_lit2, z_litl, iI_add, iI_sub, iI_mul, iI_neg, iI_and, iI_or, iI_xor, iI_shl, iI_shr, iI_ushr, iI_div, iI_b, iI_c, iI_i2l, lI_l2i, lI_add, lI_sub, lI_mul, lI_neg, lI_div, lI_or, lI_and, lI_shl, lI_shr, nI_iI, lg_lt0, lg_gt0, lg_eq0, i_ne0', l_ne0', iI_lt, iI_le, iI_eq, lI_lt, lI_le, lI_eq, zb_0, zb_fit, zb_fit0, zb_fit1, i_one_zero, i_w_in, z_tb0, z_tb1, z_tb2, z_tb3, z_tb4, z_tb5, z_tb6, z_tb7, z_tb8, z_tbl, z_tu0, z_tu1, z_tu2, z_i_62, z_i_63, z_i_86, z_i_88, z_l_Y, z_ui_62, z_ui_63, z_ui_86, z_ui_88, z_ul_Y, z_sz_Y, z_sw_Y, iI_nat, z_ix_t, z_at, Int.add_zero, Int.sub_zero, Int.zero_add, Int.mul_zero, ne_eq, Bool.false_eq_true, Bool.true_eq_false, reduceCtorEq, eq_self, and_true, true_and, and_false, false_and, and_self, not_true_eq_false, not_false_eq_true, decide_true, decide_false, ↓reduceIte, Int.reduceEq, Int.reduceNe, Int.reduceLT, Int.reduceLE, Int.reduceAdd, Int.reduceSub, Int.reduceMul, Int.reduceNeg, Nat.reduceAdd, Nat.reduceEqDiff, Nat.reduceBEq, ↓z_x_eq, z_g_t, z_bI_s, z_bL_s, z_bR_s, z_bV_s, Int.cast_ofNat_Int, beq_self_eq_true, Bool.and_true, Bool.true_and, Bool.and_self, Bool.or_true, Bool.true_or, Bool.false_and, Bool.and_false, Bool.false_or, Bool.or_false, Bool.not_false, Bool.not_true, if_true, if_false, ite_true, ite_false, z_up_eq, z_up_app, z_ro_eq, e_Ga_firstMove, e7, zb_t, cm', d71, em]
          rfl
    rw [fin] at e6
    rw [← hf] at e5
    rw [← hg] at e4
    rw [e_Ga_fight]
    simp -implicitDefEqProofs (disch := first | assumption | omega | rfl | (simp only [z_up_eq, z_up_app, ↓reduceIte, Nat.reduceEqDiff]; omega)) only [z_lit0, z_lit1, z_lit2, z_litl, iI_add, iI_sub, iI_mul, iI_neg, iI_and, iI_or, iI_xor, iI_shl, iI_shr, iI_ushr, iI_div, iI_b, iI_c, iI_i2l, lI_l2i, lI_add, lI_sub, lI_mul, lI_neg, lI_div, lI_or, lI_and, lI_shl, lI_shr, nI_iI, lg_lt0, lg_gt0, lg_eq0, i_ne0', l_ne0', iI_lt, iI_le, iI_eq, lI_lt, lI_le, lI_eq, zb_0, zb_fit, zb_fit0, zb_fit1, i_one_zero, i_w_in, z_tb0, z_tb1, z_tb2, z_tb3, z_tb4, z_tb5, z_tb6, z_tb7, z_tb8, z_tbl, z_tu0, z_tu1, z_tu2, z_i_62, z_i_63, z_i_86, z_i_88, z_l_Y, z_ui_62, z_ui_63, z_ui_86, z_ui_88, z_ul_Y, z_sz_Y, z_sw_Y, iI_nat, z_ix_t, z_at, Int.add_zero, Int.sub_zero, Int.zero_add, Int.mul_zero, ne_eq, Bool.false_eq_true, Bool.true_eq_false, reduceCtorEq, eq_self, and_true, true_and, and_false, false_and, and_self, not_true_eq_false, not_false_eq_true, decide_true, decide_false, ↓reduceIte, Int.reduceEq, Int.reduceNe, Int.reduceLT, Int.reduceLE, Int.reduceAdd, Int.reduceSub, Int.reduceMul, Int.reduceNeg, Nat.reduceAdd, Nat.reduceEqDiff, Nat.reduceBEq, ↓z_x_eq, z_g_t, z_bI_s, z_bL_s, z_bR_s, z_bV_s, Int.cast_ofNat_Int, beq_self_eq_true, Bool.and_true, Bool.true_and, Bool.and_self, Bool.or_true, Bool.true_or, Bool.false_and, Bool.and_false, Bool.false_or, Bool.or_false, Bool.not_false, Bool.not_true, if_true, if_false, ite_true, ite_false, z_up_eq, z_up_app, z_ro_eq, nb, e1, e2, e3, zb_t, e4, e5, es, e6]
theorem t_duel (d : Nat) {S0 : ZG} {c : Int} {T : ZT} {G : ZG} (h : z_I S0 c T G) (hc : c < 600) {b1 b2 no : Int} {y : Bool} (hb1 : i_in b1) (hb2 : i_in b2) (hno : i_in no) : z_pwr S0 c T G (fun σ => z_call (d + 8) 290 [vr 10, vi (iI b1), vi (iI b2), vi (iI no), vi (iI (zb y))] σ) (fun σ => z_call (d + 10) 294 [vr 80, vi (iI b1), vi (iI b2), vi (iI no), vi (iI (zb y))] σ) := by
  have hC := h.1
  have hQ := I_cq h
  have hQm := I_mq h
  have hic := I_hic h
  have hask := h.2.2.2.2.2.2.2.2.2.1
  have h0c := h.2.2.2.2.2.2.2.2.2.2.2.2.1
  have q2 := (dw_h hC).2.2.1
  have m2 := hC.1.2.2.1
  have hn1 := fun s => p_hasNote (d + 6) T G s (x := no) ⟨hno, by rw [q2]; exact ⟨by omega, by omega⟩⟩
  rw [q2] at hn1
  have hn2 := fun s => p_isNote (d + 7) T G s (x := no) ⟨hno, m2⟩
  by_cases k1 : 0 ≤ b1 ∧ b1 ≤ 3
  · by_cases k2 : 0 ≤ b2 ∧ b2 ≤ 3
    · by_cases k3 : b1 = b2
      · have k3' : (b1 = b2) = True := eq_true k3
        refine pr_same (vi (iI (-2))) h hc (fun s => ?_) (fun s => ?_)
        · rw [e_B_duel]
          simp -implicitDefEqProofs (disch := first | assumption | omega | rfl | (simp only [z_up_eq, z_up_app, ↓reduceIte, Nat.reduceEqDiff]; omega)) only [z_lit0, z_lit1, z_lit2, z_litl, iI_add, iI_sub, iI_mul, iI_neg, iI_and, iI_or, iI_xor, iI_shl, iI_shr, iI_ushr, iI_div, iI_b, iI_c, iI_i2l, lI_l2i, lI_add, lI_sub, lI_mul, lI_neg, lI_div, lI_or, lI_and, lI_shl, lI_shr, nI_iI, lg_lt0, lg_gt0, lg_eq0, i_ne0', l_ne0', iI_lt, iI_le, iI_eq, lI_lt, lI_le, lI_eq, zb_0, zb_fit, zb_fit0, zb_fit1, i_one_zero, i_w_in, z_tb0, z_tb1, z_tb2, z_tb3, z_tb4, z_tb5, z_tb6, z_tb7, z_tb8, z_tbl, z_tu0, z_tu1, z_tu2, z_i_62, z_i_63, z_i_86, z_i_88, z_l_Y, z_ui_62, z_ui_63, z_ui_86, z_ui_88, z_ul_Y, z_sz_Y, z_sw_Y, iI_nat, z_ix_t, z_at, Int.add_zero, Int.sub_zero, Int.zero_add, Int.mul_zero, ne_eq, Bool.false_eq_true, Bool.true_eq_false, reduceCtorEq, eq_self, and_true, true_and, and_false, false_and, and_self, not_true_eq_false, not_false_eq_true, decide_true, decide_false, ↓reduceIte, Int.reduceEq, Int.reduceNe, Int.reduceLT, Int.reduceLE, Int.reduceAdd, Int.reduceSub, Int.reduceMul, Int.reduceNeg, Nat.reduceAdd, Nat.reduceEqDiff, Nat.reduceBEq, ↓z_x_eq, z_g_t, z_bI_s, z_bL_s, z_bR_s, z_bV_s, Int.cast_ofNat_Int, beq_self_eq_true, Bool.and_true, Bool.true_and, Bool.and_self, Bool.or_true, Bool.true_or, Bool.false_and, Bool.and_false, Bool.false_or, Bool.or_false, Bool.not_false, Bool.not_true, if_true, if_false, ite_true, ite_false, z_up_eq, z_up_app, z_ro_eq, p_within, k1, k2, k3', zb_t]
          exact ok_q
        · rw [e_M_duel]
          simp -implicitDefEqProofs (disch := first | assumption | omega | rfl | (simp only [z_up_eq, z_up_app, ↓reduceIte, Nat.reduceEqDiff]; omega)) only [z_lit0, z_lit1, z_lit2, z_litl, iI_add, iI_sub, iI_mul, iI_neg, iI_and, iI_or, iI_xor, iI_shl, iI_shr, iI_ushr, iI_div, iI_b, iI_c, iI_i2l, lI_l2i, lI_add, lI_sub, lI_mul, lI_neg, lI_div, lI_or, lI_and, lI_shl, lI_shr, nI_iI, lg_lt0, lg_gt0, lg_eq0, i_ne0', l_ne0', iI_lt, iI_le, iI_eq, lI_lt, lI_le, lI_eq, zb_0, zb_fit, zb_fit0, zb_fit1, i_one_zero, i_w_in, z_tb0, z_tb1, z_tb2, z_tb3, z_tb4, z_tb5, z_tb6, z_tb7, z_tb8, z_tbl, z_tu0, z_tu1, z_tu2, z_i_62, z_i_63, z_i_86, z_i_88, z_l_Y, z_ui_62, z_ui_63, z_ui_86, z_ui_88, z_ul_Y, z_sz_Y, z_sw_Y, iI_nat, z_ix_t, z_at, Int.add_zero, Int.sub_zero, Int.zero_add, Int.mul_zero, ne_eq, Bool.false_eq_true, Bool.true_eq_false, reduceCtorEq, eq_self, and_true, true_and, and_false, false_and, and_self, not_true_eq_false, not_false_eq_true, decide_true, decide_false, ↓reduceIte, Int.reduceEq, Int.reduceNe, Int.reduceLT, Int.reduceLE, Int.reduceAdd, Int.reduceSub, Int.reduceMul, Int.reduceNeg, Nat.reduceAdd, Nat.reduceEqDiff, Nat.reduceBEq, ↓z_x_eq, z_g_t, z_bI_s, z_bL_s, z_bR_s, z_bV_s, Int.cast_ofNat_Int, beq_self_eq_true, Bool.and_true, Bool.true_and, Bool.and_self, Bool.or_true, Bool.true_or, Bool.false_and, Bool.and_false, Bool.false_or, Bool.or_false, Bool.not_false, Bool.not_true, if_true, if_false, ite_true, ite_false, z_up_eq, z_up_app, z_ro_eq, p_isIn, k1, k2, k3', zb_t]
          exact ok_q
      · have k3' : (b1 = b2) = False := eq_false k3
        by_cases k4 : 0 ≤ no ∧ no ≤ G 81 2 - 1
        · have c1 := s_cn_in (G 81) b1
          have c2 := s_cn_in (G 81) b2
          refine pr_mid (vi (iI (g_an (g_hs (G 81) (G 83) (g_D (G 81) b1 b2) ((s_cn (G 81) b1).toNat + (s_cn (G 81) b2).toNat) no) ((s_cn (G 81) b1).toNat : Nat) ((s_cn (G 81) b1).toNat + (s_cn (G 81) b2).toNat) (g_D (G 81) b1 b2) y))) (g_c G c) (fun s => ?_) (fun G1 s1 hg => ?_)
          · obtain ⟨G1, s1, e1, w⟩ := p_fight d T G s (c := c) (b1 := b1) (b2 := b2) (no := no) (f := (s_cn (G 81) b1).toNat) (g := (s_cn (G 81) b2).toNat) y hQ hask (by omega) (by omega) k1 k2 (by omega) (by omega)
            have hn1' := hn1 s
            rw [show decide (0 ≤ no ∧ no ≤ G 81 2 - 1) = true from decide_eq_true k4] at hn1'
            rw [e_B_duel]
            simp -implicitDefEqProofs (disch := first | assumption | omega | rfl | (simp only [z_up_eq, z_up_app, ↓reduceIte, Nat.reduceEqDiff]; omega)) only [z_lit0, z_lit1, z_lit2, z_litl, iI_add, iI_sub, iI_mul, iI_neg, iI_and, iI_or, iI_xor, iI_shl, iI_shr, iI_ushr, iI_div, iI_b, iI_c, iI_i2l, lI_l2i, lI_add, lI_sub, lI_mul, lI_neg, lI_div, lI_or, lI_and, lI_shl, lI_shr, nI_iI, lg_lt0, lg_gt0, lg_eq0, i_ne0', l_ne0', iI_lt, iI_le, iI_eq, lI_lt, lI_le, lI_eq, zb_0, zb_fit, zb_fit0, zb_fit1, i_one_zero, i_w_in, z_tb0, z_tb1, z_tb2, z_tb3, z_tb4, z_tb5, z_tb6, z_tb7, z_tb8, z_tbl, z_tu0, z_tu1, z_tu2, z_i_62, z_i_63, z_i_86, z_i_88, z_l_Y, z_ui_62, z_ui_63, z_ui_86, z_ui_88, z_ul_Y, z_sz_Y, z_sw_Y, iI_nat, z_ix_t, z_at, Int.add_zero, Int.sub_zero, Int.zero_add, Int.mul_zero, ne_eq, Bool.false_eq_true, Bool.true_eq_false, reduceCtorEq, eq_self, and_true, true_and, and_false, false_and, and_self, not_true_eq_false, not_false_eq_true, decide_true, decide_false, ↓reduceIte, Int.reduceEq, Int.reduceNe, Int.reduceLT, Int.reduceLE, Int.reduceAdd, Int.reduceSub, Int.reduceMul, Int.reduceNeg, Nat.reduceAdd, Nat.reduceEqDiff, Nat.reduceBEq, ↓z_x_eq, z_g_t, z_bI_s, z_bL_s, z_bR_s, z_bV_s, Int.cast_ofNat_Int, beq_self_eq_true, Bool.and_true, Bool.true_and, Bool.and_self, Bool.or_true, Bool.true_or, Bool.false_and, Bool.and_false, Bool.false_or, Bool.or_false, Bool.not_false, Bool.not_true, if_true, if_false, ite_true, ite_false, z_up_eq, z_up_app, z_ro_eq, p_within, k1, k2, k3', zb_t, hn1', e1]
            exact ok_qe ok_q w
          · have g81 := hg.1 81 (by omega) (by omega) (by omega)
            have g83 := hg.1 83 (by omega) (by omega) (by omega)
            have g80 := hg.1 80 (by omega) (by omega) (by omega)
            obtain ⟨G2, s2, e1, w1, w2⟩ := p_mduel (d + 1) T G1 s1 (b1 := b1) (b2 := b2) (no := no) (f := (s_cn (G 81) b1).toNat) (g := (s_cn (G 81) b2).toNat) y (by unfold m_q; rw [g81, g83, g80]; exact hQm) (by rw [g80]; exact hic) (by rw [g81]; omega) k1 k2 k3 (by rw [g81]; omega) (by rw [g81]; omega)
            rw [g81, g83] at e1
            rw [e1]
            refine ok_qe ok_q (I_g h hc hg (fun r a b e => w1 r a (by omega)) ((w1 81 (by omega) (by omega)).trans g81) (fun k a => ?_))
            rw [w2 k (by omega) (by omega), g80]
        · rw [show decide (0 ≤ no ∧ no ≤ G 81 2 - 1) = false from decide_eq_false k4] at hn1 hn2
          refine pr_same (vi (iI (-2))) h hc (fun s => ?_) (fun s => ?_)
          · have hn1' := hn1 s
            rw [e_B_duel]
            simp -implicitDefEqProofs (disch := first | assumption | omega | rfl | (simp only [z_up_eq, z_up_app, ↓reduceIte, Nat.reduceEqDiff]; omega)) only [z_lit0, z_lit1, z_lit2, z_litl, iI_add, iI_sub, iI_mul, iI_neg, iI_and, iI_or, iI_xor, iI_shl, iI_shr, iI_ushr, iI_div, iI_b, iI_c, iI_i2l, lI_l2i, lI_add, lI_sub, lI_mul, lI_neg, lI_div, lI_or, lI_and, lI_shl, lI_shr, nI_iI, lg_lt0, lg_gt0, lg_eq0, i_ne0', l_ne0', iI_lt, iI_le, iI_eq, lI_lt, lI_le, lI_eq, zb_0, zb_fit, zb_fit0, zb_fit1, i_one_zero, i_w_in, z_tb0, z_tb1, z_tb2, z_tb3, z_tb4, z_tb5, z_tb6, z_tb7, z_tb8, z_tbl, z_tu0, z_tu1, z_tu2, z_i_62, z_i_63, z_i_86, z_i_88, z_l_Y, z_ui_62, z_ui_63, z_ui_86, z_ui_88, z_ul_Y, z_sz_Y, z_sw_Y, iI_nat, z_ix_t, z_at, Int.add_zero, Int.sub_zero, Int.zero_add, Int.mul_zero, ne_eq, Bool.false_eq_true, Bool.true_eq_false, reduceCtorEq, eq_self, and_true, true_and, and_false, false_and, and_self, not_true_eq_false, not_false_eq_true, decide_true, decide_false, ↓reduceIte, Int.reduceEq, Int.reduceNe, Int.reduceLT, Int.reduceLE, Int.reduceAdd, Int.reduceSub, Int.reduceMul, Int.reduceNeg, Nat.reduceAdd, Nat.reduceEqDiff, Nat.reduceBEq, ↓z_x_eq, z_g_t, z_bI_s, z_bL_s, z_bR_s, z_bV_s, Int.cast_ofNat_Int, beq_self_eq_true, Bool.and_true, Bool.true_and, Bool.and_self, Bool.or_true, Bool.true_or, Bool.false_and, Bool.and_false, Bool.false_or, Bool.or_false, Bool.not_false, Bool.not_true, if_true, if_false, ite_true, ite_false, z_up_eq, z_up_app, z_ro_eq, p_within, k1, k2, k3', zb_t, zb_f, hn1']
            exact ok_q
          · have hn2' := hn2 s
            rw [e_M_duel]
            simp -implicitDefEqProofs (disch := first | assumption | omega | rfl | (simp only [z_up_eq, z_up_app, ↓reduceIte, Nat.reduceEqDiff]; omega)) only [z_lit0, z_lit1, z_lit2, z_litl, iI_add, iI_sub, iI_mul, iI_neg, iI_and, iI_or, iI_xor, iI_shl, iI_shr, iI_ushr, iI_div, iI_b, iI_c, iI_i2l, lI_l2i, lI_add, lI_sub, lI_mul, lI_neg, lI_div, lI_or, lI_and, lI_shl, lI_shr, nI_iI, lg_lt0, lg_gt0, lg_eq0, i_ne0', l_ne0', iI_lt, iI_le, iI_eq, lI_lt, lI_le, lI_eq, zb_0, zb_fit, zb_fit0, zb_fit1, i_one_zero, i_w_in, z_tb0, z_tb1, z_tb2, z_tb3, z_tb4, z_tb5, z_tb6, z_tb7, z_tb8, z_tbl, z_tu0, z_tu1, z_tu2, z_i_62, z_i_63, z_i_86, z_i_88, z_l_Y, z_ui_62, z_ui_63, z_ui_86, z_ui_88, z_ul_Y, z_sz_Y, z_sw_Y, iI_nat, z_ix_t, z_at, Int.add_zero, Int.sub_zero, Int.zero_add, Int.mul_zero, ne_eq, Bool.false_eq_true, Bool.true_eq_false, reduceCtorEq, eq_self, and_true, true_and, and_false, false_and, and_self, not_true_eq_false, not_false_eq_true, decide_true, decide_false, ↓reduceIte, Int.reduceEq, Int.reduceNe, Int.reduceLT, Int.reduceLE, Int.reduceAdd, Int.reduceSub, Int.reduceMul, Int.reduceNeg, Nat.reduceAdd, Nat.reduceEqDiff, Nat.reduceBEq, ↓z_x_eq, z_g_t, z_bI_s, z_bL_s, z_bR_s, z_bV_s, Int.cast_ofNat_Int, beq_self_eq_true, Bool.and_true, Bool.true_and, Bool.and_self, Bool.or_true, Bool.true_or, Bool.false_and, Bool.and_false, Bool.false_or, Bool.or_false, Bool.not_false, Bool.not_true, if_true, if_false, ite_true, ite_false, z_up_eq, z_up_app, z_ro_eq, p_isIn, k1, k2, k3', zb_t, zb_f, hn2']
            exact ok_q
    · refine pr_same (vi (iI (-2))) h hc (fun s => ?_) (fun s => ?_)
      · rw [e_B_duel]
        simp -implicitDefEqProofs (disch := first | assumption | omega | rfl | (simp only [z_up_eq, z_up_app, ↓reduceIte, Nat.reduceEqDiff]; omega)) only [z_lit0, z_lit1, z_lit2, z_litl, iI_add, iI_sub, iI_mul, iI_neg, iI_and, iI_or, iI_xor, iI_shl, iI_shr, iI_ushr, iI_div, iI_b, iI_c, iI_i2l, lI_l2i, lI_add, lI_sub, lI_mul, lI_neg, lI_div, lI_or, lI_and, lI_shl, lI_shr, nI_iI, lg_lt0, lg_gt0, lg_eq0, i_ne0', l_ne0', iI_lt, iI_le, iI_eq, lI_lt, lI_le, lI_eq, zb_0, zb_fit, zb_fit0, zb_fit1, i_one_zero, i_w_in, z_tb0, z_tb1, z_tb2, z_tb3, z_tb4, z_tb5, z_tb6, z_tb7, z_tb8, z_tbl, z_tu0, z_tu1, z_tu2, z_i_62, z_i_63, z_i_86, z_i_88, z_l_Y, z_ui_62, z_ui_63, z_ui_86, z_ui_88, z_ul_Y, z_sz_Y, z_sw_Y, iI_nat, z_ix_t, z_at, Int.add_zero, Int.sub_zero, Int.zero_add, Int.mul_zero, ne_eq, Bool.false_eq_true, Bool.true_eq_false, reduceCtorEq, eq_self, and_true, true_and, and_false, false_and, and_self, not_true_eq_false, not_false_eq_true, decide_true, decide_false, ↓reduceIte, Int.reduceEq, Int.reduceNe, Int.reduceLT, Int.reduceLE, Int.reduceAdd, Int.reduceSub, Int.reduceMul, Int.reduceNeg, Nat.reduceAdd, Nat.reduceEqDiff, Nat.reduceBEq, ↓z_x_eq, z_g_t, z_bI_s, z_bL_s, z_bR_s, z_bV_s, Int.cast_ofNat_Int, beq_self_eq_true, Bool.and_true, Bool.true_and, Bool.and_self, Bool.or_true, Bool.true_or, Bool.false_and, Bool.and_false, Bool.false_or, Bool.or_false, Bool.not_false, Bool.not_true, if_true, if_false, ite_true, ite_false, z_up_eq, z_up_app, z_ro_eq, p_within, k1, k2, zb_t, zb_f]
        exact ok_q
      · rw [e_M_duel]
        simp -implicitDefEqProofs (disch := first | assumption | omega | rfl | (simp only [z_up_eq, z_up_app, ↓reduceIte, Nat.reduceEqDiff]; omega)) only [z_lit0, z_lit1, z_lit2, z_litl, iI_add, iI_sub, iI_mul, iI_neg, iI_and, iI_or, iI_xor, iI_shl, iI_shr, iI_ushr, iI_div, iI_b, iI_c, iI_i2l, lI_l2i, lI_add, lI_sub, lI_mul, lI_neg, lI_div, lI_or, lI_and, lI_shl, lI_shr, nI_iI, lg_lt0, lg_gt0, lg_eq0, i_ne0', l_ne0', iI_lt, iI_le, iI_eq, lI_lt, lI_le, lI_eq, zb_0, zb_fit, zb_fit0, zb_fit1, i_one_zero, i_w_in, z_tb0, z_tb1, z_tb2, z_tb3, z_tb4, z_tb5, z_tb6, z_tb7, z_tb8, z_tbl, z_tu0, z_tu1, z_tu2, z_i_62, z_i_63, z_i_86, z_i_88, z_l_Y, z_ui_62, z_ui_63, z_ui_86, z_ui_88, z_ul_Y, z_sz_Y, z_sw_Y, iI_nat, z_ix_t, z_at, Int.add_zero, Int.sub_zero, Int.zero_add, Int.mul_zero, ne_eq, Bool.false_eq_true, Bool.true_eq_false, reduceCtorEq, eq_self, and_true, true_and, and_false, false_and, and_self, not_true_eq_false, not_false_eq_true, decide_true, decide_false, ↓reduceIte, Int.reduceEq, Int.reduceNe, Int.reduceLT, Int.reduceLE, Int.reduceAdd, Int.reduceSub, Int.reduceMul, Int.reduceNeg, Nat.reduceAdd, Nat.reduceEqDiff, Nat.reduceBEq, ↓z_x_eq, z_g_t, z_bI_s, z_bL_s, z_bR_s, z_bV_s, Int.cast_ofNat_Int, beq_self_eq_true, Bool.and_true, Bool.true_and, Bool.and_self, Bool.or_true, Bool.true_or, Bool.false_and, Bool.and_false, Bool.false_or, Bool.or_false, Bool.not_false, Bool.not_true, if_true, if_false, ite_true, ite_false, z_up_eq, z_up_app, z_ro_eq, p_isIn, k1, k2, zb_t, zb_f]
        exact ok_q
  · refine pr_same (vi (iI (-2))) h hc (fun s => ?_) (fun s => ?_)
    · rw [e_B_duel]
      simp -implicitDefEqProofs (disch := first | assumption | omega | rfl | (simp only [z_up_eq, z_up_app, ↓reduceIte, Nat.reduceEqDiff]; omega)) only [z_lit0, z_lit1, z_lit2, z_litl, iI_add, iI_sub, iI_mul, iI_neg, iI_and, iI_or, iI_xor, iI_shl, iI_shr, iI_ushr, iI_div, iI_b, iI_c, iI_i2l, lI_l2i, lI_add, lI_sub, lI_mul, lI_neg, lI_div, lI_or, lI_and, lI_shl, lI_shr, nI_iI, lg_lt0, lg_gt0, lg_eq0, i_ne0', l_ne0', iI_lt, iI_le, iI_eq, lI_lt, lI_le, lI_eq, zb_0, zb_fit, zb_fit0, zb_fit1, i_one_zero, i_w_in, z_tb0, z_tb1, z_tb2, z_tb3, z_tb4, z_tb5, z_tb6, z_tb7, z_tb8, z_tbl, z_tu0, z_tu1, z_tu2, z_i_62, z_i_63, z_i_86, z_i_88, z_l_Y, z_ui_62, z_ui_63, z_ui_86, z_ui_88, z_ul_Y, z_sz_Y, z_sw_Y, iI_nat, z_ix_t, z_at, Int.add_zero, Int.sub_zero, Int.zero_add, Int.mul_zero, ne_eq, Bool.false_eq_true, Bool.true_eq_false, reduceCtorEq, eq_self, and_true, true_and, and_false, false_and, and_self, not_true_eq_false, not_false_eq_true, decide_true, decide_false, ↓reduceIte, Int.reduceEq, Int.reduceNe, Int.reduceLT, Int.reduceLE, Int.reduceAdd, Int.reduceSub, Int.reduceMul, Int.reduceNeg, Nat.reduceAdd, Nat.reduceEqDiff, Nat.reduceBEq, ↓z_x_eq, z_g_t, z_bI_s, z_bL_s, z_bR_s, z_bV_s, Int.cast_ofNat_Int, beq_self_eq_true, Bool.and_true, Bool.true_and, Bool.and_self, Bool.or_true, Bool.true_or, Bool.false_and, Bool.and_false, Bool.false_or, Bool.or_false, Bool.not_false, Bool.not_true, if_true, if_false, ite_true, ite_false, z_up_eq, z_up_app, z_ro_eq, p_within, k1, zb_f]
      exact ok_q
    · rw [e_M_duel]
      simp -implicitDefEqProofs (disch := first | assumption | omega | rfl | (simp only [z_up_eq, z_up_app, ↓reduceIte, Nat.reduceEqDiff]; omega)) only [z_lit0, z_lit1, z_lit2, z_litl, iI_add, iI_sub, iI_mul, iI_neg, iI_and, iI_or, iI_xor, iI_shl, iI_shr, iI_ushr, iI_div, iI_b, iI_c, iI_i2l, lI_l2i, lI_add, lI_sub, lI_mul, lI_neg, lI_div, lI_or, lI_and, lI_shl, lI_shr, nI_iI, lg_lt0, lg_gt0, lg_eq0, i_ne0', l_ne0', iI_lt, iI_le, iI_eq, lI_lt, lI_le, lI_eq, zb_0, zb_fit, zb_fit0, zb_fit1, i_one_zero, i_w_in, z_tb0, z_tb1, z_tb2, z_tb3, z_tb4, z_tb5, z_tb6, z_tb7, z_tb8, z_tbl, z_tu0, z_tu1, z_tu2, z_i_62, z_i_63, z_i_86, z_i_88, z_l_Y, z_ui_62, z_ui_63, z_ui_86, z_ui_88, z_ul_Y, z_sz_Y, z_sw_Y, iI_nat, z_ix_t, z_at, Int.add_zero, Int.sub_zero, Int.zero_add, Int.mul_zero, ne_eq, Bool.false_eq_true, Bool.true_eq_false, reduceCtorEq, eq_self, and_true, true_and, and_false, false_and, and_self, not_true_eq_false, not_false_eq_true, decide_true, decide_false, ↓reduceIte, Int.reduceEq, Int.reduceNe, Int.reduceLT, Int.reduceLE, Int.reduceAdd, Int.reduceSub, Int.reduceMul, Int.reduceNeg, Nat.reduceAdd, Nat.reduceEqDiff, Nat.reduceBEq, ↓z_x_eq, z_g_t, z_bI_s, z_bL_s, z_bR_s, z_bV_s, Int.cast_ofNat_Int, beq_self_eq_true, Bool.and_true, Bool.true_and, Bool.and_self, Bool.or_true, Bool.true_or, Bool.false_and, Bool.and_false, Bool.false_or, Bool.or_false, Bool.not_false, Bool.not_true, if_true, if_false, ite_true, ite_false, z_up_eq, z_up_app, z_ro_eq, p_isIn, k1, zb_f]
      exact ok_q

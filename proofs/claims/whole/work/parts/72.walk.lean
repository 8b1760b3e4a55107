/-! THE PURE PART, 52: a cough goes from seat to seat, on both sides -/
def k_wk (w : Int) : Nat → Int → Int → ZG → ZG
  | 0, _, _, G => G
  | n + 1, from_, to, G => if 0 ≤ to ∧ to ≤ G 11 0 - 1 then (if k_sit G to = -1 then G else if G 20 4 % 10 < k_passes (k_dr G) from_ then k_wk w n (k_sit G to) (to + w) (k_cg (k_dr G) (k_sit G to)) else k_dr G) else G
def m_wk (X : Int → Int) (w : Int) : Nat → Int → (Int → Int) → (Int → Int)
  | 0, _, A => A
  | n + 1, from_, A => if 0 ≤ A (32 + 5 * from_ + 3) + w then (if m_sit A (A (32 + 5 * from_ + 3) + w) = -1 then A else if A 4 % 10 < m_passes (m_dr A) X from_ then m_wk X w n (m_sit A (A (32 + 5 * from_ + 3) + w)) (m_cg (m_dr A) (m_sit A (A (32 + 5 * from_ + 3) + w))) else m_dr A) else A
theorem m_sit_or {A : Int → Int} {x : Int} (hM : m_ok A) : m_sit A x = -1 ∨ (0 ≤ m_sit A x ∧ m_sit A x < A 1 ∧ A (32 + 5 * m_sit A x + 3) = x) := by
  have m1 := hM.2.1
  rcases z_find_in (fun p => decide (A (32 + 5 * p + 3) = x)) (A 1).toNat 0 with h | ⟨a, b, c⟩
  · exact Or.inl h
  · refine Or.inr ⟨a, ?_, of_decide_eq_true c⟩
    have b' : m_sit A x < 0 + ((A 1).toNat : Int) := b
    omega
theorem k_fr_sit {G G' : ZG} (h : k_fr G G') (x : Int) : k_sit G' x = k_sit G x := by unfold k_sit; rw [h.1 21 (by omega) (by omega) (by omega)]
theorem m_fr_sit {A A' : Int → Int} (h : m_fr A A') (h1 : 0 ≤ A 1 ∧ A 1 ≤ 10) (x : Int) : m_sit A' x = m_sit A x := by
  unfold m_sit
  rw [h 1 (by omega) (by omega) (by omega)]
  refine z_find_eq _ _ (fun k a b => ?_)
  rw [h _ (by omega) (by omega) (by omega)]
theorem k_wk_fr (w : Int) : ∀ (n : Nat) (f t : Int) (G : ZG), k_fr G (k_wk w n f t G)
  | 0, _, _, _ => ⟨fun _ _ _ _ => rfl, fun _ _ _ => rfl⟩
  | n + 1, f, t, G => by
    unfold k_wk
    split
    · split
      · exact ⟨fun _ _ _ _ => rfl, fun _ _ _ => rfl⟩
      · split
        · exact k_fr_tr (k_fr_tr (k_dr_fr G) (k_cg_fr _ _)) (k_wk_fr w n _ _ _)
        · exact k_dr_fr G
    · exact ⟨fun _ _ _ _ => rfl, fun _ _ _ => rfl⟩
theorem C_wk {w : Int} : ∀ (n : Nat) (f : Int) (A : Int → Int) (G : ZG), c_nw A G → 0 ≤ f ∧ f < A 1 → A (32 + 5 * f + 3) ≠ -1 → c_nw (m_wk (G 83) w n f A) (k_wk w n f (A (32 + 5 * f + 3) + w) G)
  | 0, _, _, _, hC, _, _ => hC
  | n + 1, f, A, G, hC, hf, ha => by
    have q0 := (dw_h hC).1
    have m0 := hC.1.1
    have m1 := hC.1.2.1
    have m11 := hC.1.2.2.2.2.2.2.2.2.2.2.2.1
    have hd := D_dr hC
    have hpas : k_passes (k_dr G) f = m_passes (m_dr A) (G 83) f := by
      have e1 : m_dr A 1 = A 1 := z_ro_ne _ _ (by omega)
      have e2 : m_dr A (32 + 5 * f + 3) = A (32 + 5 * f + 3) := z_ro_ne _ _ (by omega)
      have := k_passes_eq hd (p := f) (by rw [e1]; exact hf) (by rw [e2]; exact ha)
      rw [this, (k_dr_fr G).1 83 (by omega) (by omega) (by omega)]
    generalize hs : A (32 + 5 * f + 3) + w = st at *
    by_cases c1 : 0 ≤ st
    · have es := k_sit_eq hC c1
      by_cases c2 : st ≤ G 11 0 - 1
      · by_cases c3 : m_sit A st = -1
        · have em : m_wk (G 83) w (n + 1) f A = A := by show (if _ then _ else _) = _; rw [hs, if_pos c1, if_pos c3]
          have ek : k_wk w (n + 1) f st G = G := by show (if _ then _ else _) = _; rw [if_pos ⟨c1, c2⟩, es, if_pos c3]
          rw [em, ek]; exact hC
        · by_cases c4 : A 4 % 10 < m_passes (m_dr A) (G 83) f
          · have em : m_wk (G 83) w (n + 1) f A = m_wk (G 83) w n (m_sit A st) (m_cg (m_dr A) (m_sit A st)) := by show (if _ then _ else _) = _; rw [hs, if_pos c1, if_neg c3, if_pos c4]
            have ek : k_wk w (n + 1) f st G = k_wk w n (m_sit A st) (st + w) (k_cg (k_dr G) (m_sit A st)) := by show (if _ then _ else _) = _; rw [if_pos ⟨c1, c2⟩, es, if_neg c3, hpas, (dw_m hC).2.2.1, if_pos c4]
            rw [em, ek]
            rcases m_sit_or (x := st) hC.1 with h | ⟨h1, h2, h3⟩
            · exact absurd h c3
            · have hd1 : m_dr A 1 = A 1 := z_ro_ne _ _ (by omega)
              have hg := D_cg hd (p := m_sit A st) (by rw [hd1]; exact ⟨h1, h2⟩)
              have fr : m_fr A (m_cg (m_dr A) (m_sit A st)) := m_fr_tr (m_dr_fr A) (m_cg_fr _ _ (by rw [show m_dr A 11 = A 11 from z_ro_ne _ _ (by omega)]; exact m11.1))
              have f1 := fr 1 (by omega) (by omega) (by omega)
              have f3 := fr (32 + 5 * m_sit A st + 3) (by omega) (by omega) (by omega)
              have g83 : k_cg (k_dr G) (m_sit A st) 83 = G 83 := (k_fr_tr (k_dr_fr G) (k_cg_fr _ _)).1 83 (by omega) (by omega) (by omega)
              have ih := C_wk (w := w) n (m_sit A st) _ _ hg (by rw [f1]; exact ⟨h1, h2⟩) (by rw [f3, h3]; omega)
              rw [f3, h3, g83] at ih
              exact ih
          · have em : m_wk (G 83) w (n + 1) f A = m_dr A := by show (if _ then _ else _) = _; rw [hs, if_pos c1, if_neg c3, if_neg c4]
            have ek : k_wk w (n + 1) f st G = k_dr G := by show (if _ then _ else _) = _; rw [if_pos ⟨c1, c2⟩, es, if_neg c3, hpas, (dw_m hC).2.2.1, if_neg c4]
            rw [em, ek]; exact hd
      · have c3 : m_sit A st = -1 := by
          rcases m_sit_or (x := st) hC.1 with h | ⟨h1, h2, h3⟩
          · exact h
          · have := (mo_p hC.1 _ h1 h2).2.2.2.1
            omega
        have em : m_wk (G 83) w (n + 1) f A = A := by show (if _ then _ else _) = _; rw [hs, if_pos c1, if_pos c3]
        have ek : k_wk w (n + 1) f st G = G := by show (if _ then _ else _) = _; rw [if_neg (fun q => c2 q.2)]
        rw [em, ek]; exact hC
    · have em : m_wk (G 83) w (n + 1) f A = A := by show (if _ then _ else _) = _; rw [hs, if_neg c1]
      have ek : k_wk w (n + 1) f st G = G := by show (if _ then _ else _) = _; rw [if_neg (fun q => c1 q.1)]
      rw [em, ek]; exact hC
theorem m_dr_ok {A : Int → Int} (hM : m_ok A) : m_ok (m_dr A) := by
  obtain ⟨m0, m1, m2, m3, m4, m5, m6, m7, m8, m9, m10, m11, ms, mp, mn, mc, mb, me⟩ := hM
  have em : ∀ k, k ≠ 4 → m_dr A k = A k := fun k a => z_ro_ne _ _ a
  have e4 : m_dr A 4 = (A 4 * 277 + 173) % 30271 := z_ro_eq _ _ _
  unfold m_ok
  rw [em 0 (by omega), em 1 (by omega), em 2 (by omega), em 3 (by omega), e4, em 5 (by omega), em 6 (by omega), em 7 (by omega), em 8 (by omega), em 9 (by omega), em 10 (by omega), em 11 (by omega)]
  refine ⟨m0, m1, m2, m3, by omega, m5, m6, m7, m8, m9, m10, m11, fun k a b => ?_, fun k a b => ?_, fun k a b => ?_, fun k a b => ?_, fun k a b => ?_, fun k a b => ?_⟩
  · rw [em _ (by omega), em _ (by omega)]; exact ms k a b
  · rw [em _ (by omega), em _ (by omega), em _ (by omega), em _ (by omega), em _ (by omega)]; exact mp k a b
  · rw [em _ (by omega), em _ (by omega)]; exact mn k a b
  · rw [em _ (by omega), em _ (by omega)]; exact mc k a b
  · rw [em _ (by omega), em _ (by omega)]; exact mb k a b
  · rw [em _ (by omega), em _ (by omega), em _ (by omega)]; exact me k a b
theorem m_cg_ok {A : Int → Int} {p : Int} (hM : m_ok A) (hp : 0 ≤ p ∧ p < 10) : m_ok (m_cg A p) := by
  by_cases c : A 11 < 20 ∧ m_cgh A p (A 3) = false
  · have fr := m_cg_fr A p hM.2.2.2.2.2.2.2.2.2.2.2.1.1
    have e : m_cg A p = _ := if_pos c
    have e4 : m_cg A p 4 = A 4 := by rw [e, z_ro_ne _ _ (by omega), z_ro_ne _ _ (by have := hM.2.2.2.2.2.2.2.2.2.2.2.1; omega), z_ro_ne _ _ (by have := hM.2.2.2.2.2.2.2.2.2.2.2.1; omega)]
    have e11 : m_cg A p 11 = A 11 + 1 := by rw [e, z_ro_eq]
    obtain ⟨m0, m1, m2, m3, m4, m5, m6, m7, m8, m9, m10, m11, ms, mp, mn, mc, mb, me⟩ := hM
    have em : ∀ k, 12 ≤ k → k < 106 ∨ 146 ≤ k → m_cg A p k = A k := fun k a b => fr k (by omega) (by omega) b
    have ro : ∀ k, 106 ≤ k → k < 106 + 2 * A 11 → m_cg A p k = A k := fun k a b => by rw [e, z_ro_ne _ _ (by omega), z_ro_ne _ _ (by omega), z_ro_ne _ _ (by omega)]
    have r0 : m_cg A p (106 + 2 * A 11) = p := by rw [e, z_ro_ne _ _ (by omega), z_ro_ne _ _ (by omega), z_ro_eq]
    have r1 : m_cg A p (106 + 2 * A 11 + 1) = A 3 := by rw [e, z_ro_ne _ _ (by omega), z_ro_eq]
    unfold m_ok
    rw [fr 0 (by omega) (by omega) (by omega), fr 1 (by omega) (by omega) (by omega), fr 2 (by omega) (by omega) (by omega), fr 3 (by omega) (by omega) (by omega), e4, fr 5 (by omega) (by omega) (by omega), fr 6 (by omega) (by omega) (by omega), fr 7 (by omega) (by omega) (by omega), fr 8 (by omega) (by omega) (by omega), fr 9 (by omega) (by omega) (by omega), fr 10 (by omega) (by omega) (by omega), e11]
    refine ⟨m0, m1, m2, m3, m4, m5, m6, m7, m8, m9, m10, by omega, fun k a b => ?_, fun k a b => ?_, fun k a b => ?_, fun k a b => ?_, fun k a b => ?_, fun k a b => ?_⟩
    · rw [em _ (by omega) (by omega), em _ (by omega) (by omega)]; exact ms k a b
    · rw [em _ (by omega) (by omega), em _ (by omega) (by omega), em _ (by omega) (by omega), em _ (by omega) (by omega), em _ (by omega) (by omega)]; exact mp k a b
    · rw [em _ (by omega) (by omega), em _ (by omega) (by omega)]; exact mn k a b
    · by_cases f : k = A 11
      · rw [f, r0, r1]; exact ⟨by omega, m3⟩
      · rw [ro _ (by omega) (by omega), ro _ (by omega) (by omega)]; exact mc k a (by omega)
    · rw [em _ (by omega) (by omega), em _ (by omega) (by omega)]; exact mb k a b
    · rw [em _ (by omega) (by omega), em _ (by omega) (by omega), em _ (by omega) (by omega)]; exact me k a b
  · rw [show m_cg A p = A from if_neg c]; exact hM
theorem m_wk_fr (X : Int → Int) (w : Int) : ∀ (n : Nat) (f : Int) (A : Int → Int), m_ok A → (0 ≤ f ∧ f < A 1) → m_fr A (m_wk X w n f A)
  | 0, _, _, _, _ => fun _ _ _ _ => rfl
  | n + 1, f, A, hM, hf => by
    have m11 := hM.2.2.2.2.2.2.2.2.2.2.2.1
    have m1 := hM.2.1
    unfold m_wk
    generalize A (32 + 5 * f + 3) + w = st at *
    split
    · split
      · exact fun _ _ _ _ => rfl
      · rename_i c3
        split
        · rcases m_sit_or (x := st) hM with h | ⟨h1, h2, h3⟩
          · exact absurd h c3
          · have e11 : m_dr A 11 = A 11 := z_ro_ne _ _ (by omega)
            have fr : m_fr A (m_cg (m_dr A) (m_sit A st)) := m_fr_tr (m_dr_fr A) (m_cg_fr _ _ (by rw [e11]; exact m11.1))
            have f1 := fr 1 (by omega) (by omega) (by omega)
            exact m_fr_tr fr (m_wk_fr X w n _ _ (m_cg_ok (m_dr_ok hM) ⟨h1, by omega⟩) (by rw [f1]; exact ⟨h1, h2⟩))
        · exact m_dr_fr A
    · exact fun _ _ _ _ => rfl
/-- texts are as they were -/
theorem t_okA_fr {T : ZT} {A A' : Int → Int} {G G' : ZG} (h : t_okA T A G) (h5 : A' 5 = A 5) (h83 : G' 83 = G 83) (h98 : ∀ r, 98 ≤ r → G' r = G r) : t_okA T A' G' := by
  unfold t_okA at *
  rw [h5, h83]
  exact ⟨h.1, fun t a b => t_txt_eq h98 h83 (h.2 t a b)⟩
theorem p_wk_end (d : Nat) (T : ZT) (G : ZG) (s : ZG × ZG) {A : Int → Int} {p st w t : Int} (hC : c_nw A G) (ht : i_in t) : z_w d_De_spread (z_call (d + 1)) 38 [some (vr 65), some (vi (iI p)), some (vi (iI st)), some (vi (iI w)), some (vi (iI (-1))), some (vi (iI t)), none, none] [] (z_Y T G s) = z_w d_De_spread (z_call (d + 1)) 20 [some (vr 65), some (vi (iI p)), some (vi (iI st)), some (vi (iI (w + -2))), none, none, none, none] [] (z_Y T G s) := by
  have q0 := (dw_h hC).1
  have m0 := hC.1.1
  rw [e_De_spread_38]
  by_cases c : 0 ≤ t ∧ t ≤ G 11 0 - 1
  · simp -implicitDefEqProofs (disch := first | assumption | omega | rfl | (simp only [z_up_eq, z_up_app, ↓reduceIte, Nat.reduceEqDiff]; omega)) only [z_lit0, z_lit1, z_lit2, z_litl, iI_add, iI_sub, iI_mul, iI_neg, iI_and, iI_or, iI_xor, iI_shl, iI_shr, iI_ushr, iI_div, iI_b, iI_c, iI_i2l, lI_l2i, lI_add, lI_sub, lI_mul, lI_neg, lI_div, lI_or, lI_and, lI_shl, lI_shr, nI_iI, lg_lt0, lg_gt0, lg_eq0, i_ne0', l_ne0', iI_lt, iI_le, iI_eq, lI_lt, lI_le, lI_eq, zb_0, zb_fit, zb_fit0, zb_fit1, i_one_zero, i_w_in, z_tb0, z_tb1, z_tb2, z_tb3, z_tb4, z_tb5, z_tb6, z_tb7, z_tb8, z_tbl, z_tu0, z_tu1, z_tu2, z_i_62, z_i_63, z_i_86, z_i_88, z_l_Y, z_ui_62, z_ui_63, z_ui_86, z_ui_88, z_ul_Y, z_sz_Y, z_sw_Y, iI_nat, z_ix_t, z_at, Int.add_zero, Int.sub_zero, Int.zero_add, Int.mul_zero, ne_eq, Bool.false_eq_true, Bool.true_eq_false, reduceCtorEq, eq_self, and_true, true_and, and_false, false_and, and_self, not_true_eq_false, not_false_eq_true, decide_true, decide_false, ↓reduceIte, Int.reduceEq, Int.reduceNe, Int.reduceLT, Int.reduceLE, Int.reduceAdd, Int.reduceSub, Int.reduceMul, Int.reduceNeg, Nat.reduceAdd, Nat.reduceEqDiff, Nat.reduceBEq, ↓z_x_eq, z_g_t, z_bI_s, z_bL_s, z_bR_s, z_bV_s, Int.cast_ofNat_Int, beq_self_eq_true, Bool.and_true, Bool.true_and, Bool.and_self, Bool.or_true, Bool.true_or, Bool.false_and, Bool.and_false, Bool.false_or, Bool.or_false, Bool.not_false, Bool.not_true, if_true, if_false, ite_true, ite_false, z_up_eq, z_up_app, z_ro_eq, p_hasSeat, c, zb_t]
  · simp -implicitDefEqProofs (disch := first | assumption | omega | rfl | (simp only [z_up_eq, z_up_app, ↓reduceIte, Nat.reduceEqDiff]; omega)) only [z_lit0, z_lit1, z_lit2, z_litl, iI_add, iI_sub, iI_mul, iI_neg, iI_and, iI_or, iI_xor, iI_shl, iI_shr, iI_ushr, iI_div, iI_b, iI_c, iI_i2l, lI_l2i, lI_add, lI_sub, lI_mul, lI_neg, lI_div, lI_or, lI_and, lI_shl, lI_shr, nI_iI, lg_lt0, lg_gt0, lg_eq0, i_ne0', l_ne0', iI_lt, iI_le, iI_eq, lI_lt, lI_le, lI_eq, zb_0, zb_fit, zb_fit0, zb_fit1, i_one_zero, i_w_in, z_tb0, z_tb1, z_tb2, z_tb3, z_tb4, z_tb5, z_tb6, z_tb7, z_tb8, z_tbl, z_tu0, z_tu1, z_tu2, z_i_62, z_i_63, z_i_86, z_i_88, z_l_Y, z_ui_62, z_ui_63, z_ui_86, z_ui_88, z_ul_Y, z_sz_Y, z_sw_Y, iI_nat, z_ix_t, z_at, Int.add_zero, Int.sub_zero, Int.zero_add, Int.mul_zero, ne_eq, Bool.false_eq_true, Bool.true_eq_false, reduceCtorEq, eq_self, and_true, true_and, and_false, false_and, and_self, not_true_eq_false, not_false_eq_true, decide_true, decide_false, ↓reduceIte, Int.reduceEq, Int.reduceNe, Int.reduceLT, Int.reduceLE, Int.reduceAdd, Int.reduceSub, Int.reduceMul, Int.reduceNeg, Nat.reduceAdd, Nat.reduceEqDiff, Nat.reduceBEq, ↓z_x_eq, z_g_t, z_bI_s, z_bL_s, z_bR_s, z_bV_s, Int.cast_ofNat_Int, beq_self_eq_true, Bool.and_true, Bool.true_and, Bool.and_self, Bool.or_true, Bool.true_or, Bool.false_and, Bool.and_false, Bool.false_or, Bool.or_false, Bool.not_false, Bool.not_true, if_true, if_false, ite_true, ite_false, z_up_eq, z_up_app, z_ro_eq, p_hasSeat, c, zb_f]
theorem p_wk (d : Nat) (T : ZT) {w p st : Int} (hw : w = 1 ∨ w = -1) : ∀ (n : Nat) (f t : Int) (A : Int → Int) (G : ZG) (s : ZG × ZG), c_nw A G → t_okA T A G → (0 ≤ f ∧ f < A 1) → A (32 + 5 * f + 3) ≠ -1 → (w = 1 → 10 ≤ t + n) → (w = -1 → t < n) → (-1 ≤ t ∧ t ≤ 10) → ∃ s', z_w d_De_spread (z_call (d + 4)) 38 [some (vr 65), some (vi (iI p)), some (vi (iI st)), some (vi (iI w)), some (vi (iI f)), some (vi (iI t)), none, none] [] (z_Y T G s) = z_w d_De_spread (z_call (d + 4)) 20 [some (vr 65), some (vi (iI p)), some (vi (iI st)), some (vi (iI (w + -2))), none, none, none, none] [] (z_Y T (k_wk w n f t G) s')
  | 0, f, t, A, G, s, hC, hT, hf, ha, w1, w2, ht => by
    have q0 := (dw_h hC).1
    have m0 := hC.1.1
    have c : ¬ (0 ≤ t ∧ t ≤ G 11 0 - 1) := by rcases hw with h | h <;> omega
    refine ⟨s, ?_⟩
    show _ = z_w d_De_spread (z_call (d + 4)) 20 _ [] (z_Y T G s)
    rw [e_De_spread_38]
    simp -implicitDefEqProofs (disch := first | assumption | omega | rfl | (simp only [z_up_eq, z_up_app, ↓reduceIte, Nat.reduceEqDiff]; omega)) only [z_lit0, z_lit1, z_lit2, z_litl, iI_add, iI_sub, iI_mul, iI_neg, iI_and, iI_or, iI_xor, iI_shl, iI_shr, iI_ushr, iI_div, iI_b, iI_c, iI_i2l, lI_l2i, lI_add, lI_sub, lI_mul, lI_neg, lI_div, lI_or, lI_and, lI_shl, lI_shr, nI_iI, lg_lt0, lg_gt0, lg_eq0, i_ne0', l_ne0', iI_lt, iI_le, iI_eq, lI_lt, lI_le, lI_eq, zb_0, zb_fit, zb_fit0, zb_fit1, i_one_zero, i_w_in, z_tb0, z_tb1, z_tb2, z_tb3, z_tb4, z_tb5, z_tb6, z_tb7, z_tb8, z_tbl, z_tu0, z_tu1, z_tu2, z_i_62, z_i_63, z_i_86, z_i_88, z_l_Y, z_ui_62, z_ui_63, z_ui_86, z_ui_88, z_ul_Y, z_sz_Y, z_sw_Y, iI_nat, z_ix_t, z_at, Int.add_zero, Int.sub_zero, Int.zero_add, Int.mul_zero, ne_eq, Bool.false_eq_true, Bool.true_eq_false, reduceCtorEq, eq_self, and_true, true_and, and_false, false_and, and_self, not_true_eq_false, not_false_eq_true, decide_true, decide_false, ↓reduceIte, Int.reduceEq, Int.reduceNe, Int.reduceLT, Int.reduceLE, Int.reduceAdd, Int.reduceSub, Int.reduceMul, Int.reduceNeg, Nat.reduceAdd, Nat.reduceEqDiff, Nat.reduceBEq, ↓z_x_eq, z_g_t, z_bI_s, z_bL_s, z_bR_s, z_bV_s, Int.cast_ofNat_Int, beq_self_eq_true, Bool.and_true, Bool.true_and, Bool.and_self, Bool.or_true, Bool.true_or, Bool.false_and, Bool.and_false, Bool.false_or, Bool.or_false, Bool.not_false, Bool.not_true, if_true, if_false, ite_true, ite_false, z_up_eq, z_up_app, z_ro_eq, p_hasSeat, c, zb_f]
  | n + 1, f, t, A, G, s, hC, hT, hf, ha, w1, w2, ht => by
    have q0 := (dw_h hC).1
    have m0 := hC.1.1
    have m1 := hC.1.2.1
    have m4 := hC.1.2.2.2.2.1
    have dm4 := (dw_m hC).2.2.1
    by_cases c : 0 ≤ t ∧ t ≤ G 11 0 - 1
    · have sin := k_sit_in G t
      have hwi : i_in (t + w) := by rcases hw with h | h <;> rw [h] <;> exact ⟨by omega, by omega⟩
      have nf : ¬ f = -1 := by omega
      have ws := fun s => p_whoSitsA (d + 3) T G s (x := t) ⟨by omega, by omega⟩ (k_at_in hC)
      by_cases c2 : k_sit G t = -1
      · have ke : k_wk w (n + 1) f t G = G := by unfold k_wk; rw [if_pos c, if_pos c2]
        have en := p_wk_end (d + 3) T G s (p := p) (st := st) (w := w) (t := t + w) hC hwi
        rw [ke]
        refine ⟨s, ?_⟩
        rw [e_De_spread_38]
        simp -implicitDefEqProofs (disch := first | assumption | omega | rfl | (simp only [z_up_eq, z_up_app, ↓reduceIte, Nat.reduceEqDiff]; omega)) only [z_lit0, z_lit1, z_lit2, z_litl, iI_add, iI_sub, iI_mul, iI_neg, iI_and, iI_or, iI_xor, iI_shl, iI_shr, iI_ushr, iI_div, iI_b, iI_c, iI_i2l, lI_l2i, lI_add, lI_sub, lI_mul, lI_neg, lI_div, lI_or, lI_and, lI_shl, lI_shr, nI_iI, lg_lt0, lg_gt0, lg_eq0, i_ne0', l_ne0', iI_lt, iI_le, iI_eq, lI_lt, lI_le, lI_eq, zb_0, zb_fit, zb_fit0, zb_fit1, i_one_zero, i_w_in, z_tb0, z_tb1, z_tb2, z_tb3, z_tb4, z_tb5, z_tb6, z_tb7, z_tb8, z_tbl, z_tu0, z_tu1, z_tu2, z_i_62, z_i_63, z_i_86, z_i_88, z_l_Y, z_ui_62, z_ui_63, z_ui_86, z_ui_88, z_ul_Y, z_sz_Y, z_sw_Y, iI_nat, z_ix_t, z_at, Int.add_zero, Int.sub_zero, Int.zero_add, Int.mul_zero, ne_eq, Bool.false_eq_true, Bool.true_eq_false, reduceCtorEq, eq_self, and_true, true_and, and_false, false_and, and_self, not_true_eq_false, not_false_eq_true, decide_true, decide_false, ↓reduceIte, Int.reduceEq, Int.reduceNe, Int.reduceLT, Int.reduceLE, Int.reduceAdd, Int.reduceSub, Int.reduceMul, Int.reduceNeg, Nat.reduceAdd, Nat.reduceEqDiff, Nat.reduceBEq, ↓z_x_eq, z_g_t, z_bI_s, z_bL_s, z_bR_s, z_bV_s, Int.cast_ofNat_Int, beq_self_eq_true, Bool.and_true, Bool.true_and, Bool.and_self, Bool.or_true, Bool.true_or, Bool.false_and, Bool.and_false, Bool.false_or, Bool.or_false, Bool.not_false, Bool.not_true, if_true, if_false, ite_true, ite_false, z_up_eq, z_up_app, z_ro_eq, p_hasSeat, c, zb_t, nf, ws, c2]
        rw [e_De_spread_113]
        simp -implicitDefEqProofs (disch := first | assumption | omega | rfl | (simp only [z_up_eq, z_up_app, ↓reduceIte, Nat.reduceEqDiff]; omega)) only [z_lit0, z_lit1, z_lit2, z_litl, iI_add, iI_sub, iI_mul, iI_neg, iI_and, iI_or, iI_xor, iI_shl, iI_shr, iI_ushr, iI_div, iI_b, iI_c, iI_i2l, lI_l2i, lI_add, lI_sub, lI_mul, lI_neg, lI_div, lI_or, lI_and, lI_shl, lI_shr, nI_iI, lg_lt0, lg_gt0, lg_eq0, i_ne0', l_ne0', iI_lt, iI_le, iI_eq, lI_lt, lI_le, lI_eq, zb_0, zb_fit, zb_fit0, zb_fit1, i_one_zero, i_w_in, z_tb0, z_tb1, z_tb2, z_tb3, z_tb4, z_tb5, z_tb6, z_tb7, z_tb8, z_tbl, z_tu0, z_tu1, z_tu2, z_i_62, z_i_63, z_i_86, z_i_88, z_l_Y, z_ui_62, z_ui_63, z_ui_86, z_ui_88, z_ul_Y, z_sz_Y, z_sw_Y, iI_nat, z_ix_t, z_at, Int.add_zero, Int.sub_zero, Int.zero_add, Int.mul_zero, ne_eq, Bool.false_eq_true, Bool.true_eq_false, reduceCtorEq, eq_self, and_true, true_and, and_false, false_and, and_self, not_true_eq_false, not_false_eq_true, decide_true, decide_false, ↓reduceIte, Int.reduceEq, Int.reduceNe, Int.reduceLT, Int.reduceLE, Int.reduceAdd, Int.reduceSub, Int.reduceMul, Int.reduceNeg, Nat.reduceAdd, Nat.reduceEqDiff, Nat.reduceBEq, ↓z_x_eq, z_g_t, z_bI_s, z_bL_s, z_bR_s, z_bV_s, Int.cast_ofNat_Int, beq_self_eq_true, Bool.and_true, Bool.true_and, Bool.and_self, Bool.or_true, Bool.true_or, Bool.false_and, Bool.and_false, Bool.false_or, Bool.or_false, Bool.not_false, Bool.not_true, if_true, if_false, ite_true, ite_false, z_up_eq, z_up_app, z_ro_eq, en]
      · have hd := D_dr hC
        have fr := k_dr_fr G
        have e1 : m_dr A 1 = A 1 := z_ro_ne _ _ (by omega)
        have e2 : m_dr A (32 + 5 * f + 3) = A (32 + 5 * f + 3) := z_ro_ne _ _ (by omega)
        have hTd : t_okA T (m_dr A) (k_dr G) := t_okA_fr hT (z_ro_ne _ _ (by omega)) (fr.1 83 (by omega) (by omega) (by omega)) (fun r a => fr.1 r (by omega) (by omega) (by omega))
        have dw := fun s => p_draw (d + 3) T G s hC
        obtain ⟨s1, ep⟩ := p_cpassesK d T (k_dr G) s ⟨hd, hTd⟩ (p := f) (by rw [e1]; exact hf) (by rw [e2]; exact ha)
        have pin := k_passes_in (k_dr G) f
        have r10 : G 20 4 - i_div (G 20 4) 10 * 10 = G 20 4 % 10 := i_remn (by omega) (by omega)
        have hs : 0 ≤ k_sit G t ∧ k_sit G t < A 1 ∧ A (32 + 5 * k_sit G t + 3) = t := by
          rw [k_sit_eq hC c.1] at c2 ⊢
          rcases m_sit_or (x := t) hC.1 with h | h
          · exact absurd h c2
          · exact h
        by_cases c3 : G 20 4 % 10 < k_passes (k_dr G) f
        · have ke : k_wk w (n + 1) f t G = k_wk w n (k_sit G t) (t + w) (k_cg (k_dr G) (k_sit G t)) := by
            show (if _ then _ else _) = _
            rw [if_pos c, if_neg c2, if_pos c3]
          have c3' : (G 20 4 % 10 < k_passes (k_dr G) f) = True := eq_true c3
          have hg := D_cg hd (p := k_sit G t) (by rw [e1]; exact ⟨hs.1, hs.2.1⟩)
          have frA : m_fr A (m_cg (m_dr A) (k_sit G t)) := m_fr_tr (m_dr_fr A) (m_cg_fr _ _ (hd.1.2.2.2.2.2.2.2.2.2.2.2.1).1)
          have frG := k_fr_tr fr (k_cg_fr (k_dr G) (k_sit G t))
          have f1 := frA 1 (by omega) (by omega) (by omega)
          have f3 := frA (32 + 5 * k_sit G t + 3) (by omega) (by omega) (by omega)
          have hT2 : t_okA T (m_cg (m_dr A) (k_sit G t)) (k_cg (k_dr G) (k_sit G t)) := t_okA_fr hT (frA 5 (by omega) (by omega) (by omega)) (frG.1 83 (by omega) (by omega) (by omega)) (fun r a => frG.1 r (by omega) (by omega) (by omega))
          have kc := fun s => p_keepCough (d + 2) T (k_dr G) s hd (p := k_sit G t) ⟨by omega, by omega⟩
          obtain ⟨s2, ih⟩ := p_wk d T (p := p) (st := st) hw n (k_sit G t) (t + w) _ _ s1 hg hT2 (by rw [f1]; exact ⟨hs.1, hs.2.1⟩) (by rw [f3, hs.2.2]; omega) (fun h => by have := w1 h; omega) (fun h => by have := w2 h; omega) (by rcases hw with h | h <;> omega)
          refine ⟨s2, ?_⟩
          rw [ke, ← ih, e_De_spread_38]
          simp -implicitDefEqProofs (disch := first | assumption | omega | rfl | (simp only [z_up_eq, z_up_app, ↓reduceIte, Nat.reduceEqDiff]; omega)) only [z_lit0, z_lit1, z_lit2, z_litl, iI_add, iI_sub, iI_mul, iI_neg, iI_and, iI_or, iI_xor, iI_shl, iI_shr, iI_ushr, iI_div, iI_b, iI_c, iI_i2l, lI_l2i, lI_add, lI_sub, lI_mul, lI_neg, lI_div, lI_or, lI_and, lI_shl, lI_shr, nI_iI, lg_lt0, lg_gt0, lg_eq0, i_ne0', l_ne0', iI_lt, iI_le, iI_eq, lI_lt, lI_le, lI_eq, zb_0, zb_fit, zb_fit0, zb_fit1, i_one_zero, i_w_in, z_tb0, z_tb1, z_tb2, z_tb3, z_tb4, z_tb5, z_tb6, z_tb7, z_tb8, z_tbl, z_tu0, z_tu1, z_tu2, z_i_62, z_i_63, z_i_86, z_i_88, z_l_Y, z_ui_62, z_ui_63, z_ui_86, z_ui_88, z_ul_Y, z_sz_Y, z_sw_Y, iI_nat, z_ix_t, z_at, Int.add_zero, Int.sub_zero, Int.zero_add, Int.mul_zero, ne_eq, Bool.false_eq_true, Bool.true_eq_false, reduceCtorEq, eq_self, and_true, true_and, and_false, false_and, and_self, not_true_eq_false, not_false_eq_true, decide_true, decide_false, ↓reduceIte, Int.reduceEq, Int.reduceNe, Int.reduceLT, Int.reduceLE, Int.reduceAdd, Int.reduceSub, Int.reduceMul, Int.reduceNeg, Nat.reduceAdd, Nat.reduceEqDiff, Nat.reduceBEq, ↓z_x_eq, z_g_t, z_bI_s, z_bL_s, z_bR_s, z_bV_s, Int.cast_ofNat_Int, beq_self_eq_true, Bool.and_true, Bool.true_and, Bool.and_self, Bool.or_true, Bool.true_or, Bool.false_and, Bool.and_false, Bool.false_or, Bool.or_false, Bool.not_false, Bool.not_true, if_true, if_false, ite_true, ite_false, z_up_eq, z_up_app, z_ro_eq, p_hasSeat, c, zb_t, nf, ws, c2, dw, ep, r10, c3']
          rw [e_De_spread_113]
          simp -implicitDefEqProofs (disch := first | assumption | omega | rfl | (simp only [z_up_eq, z_up_app, ↓reduceIte, Nat.reduceEqDiff]; omega)) only [z_lit0, z_lit1, z_lit2, z_litl, iI_add, iI_sub, iI_mul, iI_neg, iI_and, iI_or, iI_xor, iI_shl, iI_shr, iI_ushr, iI_div, iI_b, iI_c, iI_i2l, lI_l2i, lI_add, lI_sub, lI_mul, lI_neg, lI_div, lI_or, lI_and, lI_shl, lI_shr, nI_iI, lg_lt0, lg_gt0, lg_eq0, i_ne0', l_ne0', iI_lt, iI_le, iI_eq, lI_lt, lI_le, lI_eq, zb_0, zb_fit, zb_fit0, zb_fit1, i_one_zero, i_w_in, z_tb0, z_tb1, z_tb2, z_tb3, z_tb4, z_tb5, z_tb6, z_tb7, z_tb8, z_tbl, z_tu0, z_tu1, z_tu2, z_i_62, z_i_63, z_i_86, z_i_88, z_l_Y, z_ui_62, z_ui_63, z_ui_86, z_ui_88, z_ul_Y, z_sz_Y, z_sw_Y, iI_nat, z_ix_t, z_at, Int.add_zero, Int.sub_zero, Int.zero_add, Int.mul_zero, ne_eq, Bool.false_eq_true, Bool.true_eq_false, reduceCtorEq, eq_self, and_true, true_and, and_false, false_and, and_self, not_true_eq_false, not_false_eq_true, decide_true, decide_false, ↓reduceIte, Int.reduceEq, Int.reduceNe, Int.reduceLT, Int.reduceLE, Int.reduceAdd, Int.reduceSub, Int.reduceMul, Int.reduceNeg, Nat.reduceAdd, Nat.reduceEqDiff, Nat.reduceBEq, ↓z_x_eq, z_g_t, z_bI_s, z_bL_s, z_bR_s, z_bV_s, Int.cast_ofNat_Int, beq_self_eq_true, Bool.and_true, Bool.true_and, Bool.and_self, Bool.or_true, Bool.true_or, Bool.false_and, Bool.and_false, Bool.false_or, Bool.or_false, Bool.not_false, Bool.not_true, if_true, if_false, ite_true, ite_false, z_up_eq, z_up_app, z_ro_eq, kc]
        · have ke : k_wk w (n + 1) f t G = k_dr G := by
            show (if _ then _ else _) = _
            rw [if_pos c, if_neg c2, if_neg c3]
          have c3' : (G 20 4 % 10 < k_passes (k_dr G) f) = False := eq_false c3
          have en := p_wk_end (d + 3) T (k_dr G) s1 (p := p) (st := st) (w := w) (t := t + w) hd hwi
          refine ⟨s1, ?_⟩
          rw [ke, e_De_spread_38]
          simp -implicitDefEqProofs (disch := first | assumption | omega | rfl | (simp only [z_up_eq, z_up_app, ↓reduceIte, Nat.reduceEqDiff]; omega)) only [z_lit0, z_lit1, z_lit2, z_litl, iI_add, iI_sub, iI_mul, iI_neg, iI_and, iI_or, iI_xor, iI_shl, iI_shr, iI_ushr, iI_div, iI_b, iI_c, iI_i2l, lI_l2i, lI_add, lI_sub, lI_mul, lI_neg, lI_div, lI_or, lI_and, lI_shl, lI_shr, nI_iI, lg_lt0, lg_gt0, lg_eq0, i_ne0', l_ne0', iI_lt, iI_le, iI_eq, lI_lt, lI_le, lI_eq, zb_0, zb_fit, zb_fit0, zb_fit1, i_one_zero, i_w_in, z_tb0, z_tb1, z_tb2, z_tb3, z_tb4, z_tb5, z_tb6, z_tb7, z_tb8, z_tbl, z_tu0, z_tu1, z_tu2, z_i_62, z_i_63, z_i_86, z_i_88, z_l_Y, z_ui_62, z_ui_63, z_ui_86, z_ui_88, z_ul_Y, z_sz_Y, z_sw_Y, iI_nat, z_ix_t, z_at, Int.add_zero, Int.sub_zero, Int.zero_add, Int.mul_zero, ne_eq, Bool.false_eq_true, Bool.true_eq_false, reduceCtorEq, eq_self, and_true, true_and, and_false, false_and, and_self, not_true_eq_false, not_false_eq_true, decide_true, decide_false, ↓reduceIte, Int.reduceEq, Int.reduceNe, Int.reduceLT, Int.reduceLE, Int.reduceAdd, Int.reduceSub, Int.reduceMul, Int.reduceNeg, Nat.reduceAdd, Nat.reduceEqDiff, Nat.reduceBEq, ↓z_x_eq, z_g_t, z_bI_s, z_bL_s, z_bR_s, z_bV_s, Int.cast_ofNat_Int, beq_self_eq_true, Bool.and_true, Bool.true_and, Bool.and_self, Bool.or_true, Bool.true_or, Bool.false_and, Bool.and_false, Bool.false_or, Bool.or_false, Bool.not_false, Bool.not_true, if_true, if_false, ite_true, ite_false, z_up_eq, z_up_app, z_ro_eq, p_hasSeat, c, zb_t, nf, ws, c2, dw, ep, r10, c3']
          rw [e_De_spread_113]
          simp -implicitDefEqProofs (disch := first | assumption | omega | rfl | (simp only [z_up_eq, z_up_app, ↓reduceIte, Nat.reduceEqDiff]; omega)) only [z_lit0, z_lit1, z_lit2, z_litl, iI_add, iI_sub, iI_mul, iI_neg, iI_and, iI_or, iI_xor, iI_shl, iI_shr, iI_ushr, iI_div, iI_b, iI_c, iI_i2l, lI_l2i, lI_add, lI_sub, lI_mul, lI_neg, lI_div, lI_or, lI_and, lI_shl, lI_shr, nI_iI, lg_lt0, lg_gt0, lg_eq0, i_ne0', l_ne0', iI_lt, iI_le, iI_eq, lI_lt, lI_le, lI_eq, zb_0, zb_fit, zb_fit0, zb_fit1, i_one_zero, i_w_in, z_tb0, z_tb1, z_tb2, z_tb3, z_tb4, z_tb5, z_tb6, z_tb7, z_tb8, z_tbl, z_tu0, z_tu1, z_tu2, z_i_62, z_i_63, z_i_86, z_i_88, z_l_Y, z_ui_62, z_ui_63, z_ui_86, z_ui_88, z_ul_Y, z_sz_Y, z_sw_Y, iI_nat, z_ix_t, z_at, Int.add_zero, Int.sub_zero, Int.zero_add, Int.mul_zero, ne_eq, Bool.false_eq_true, Bool.true_eq_false, reduceCtorEq, eq_self, and_true, true_and, and_false, false_and, and_self, not_true_eq_false, not_false_eq_true, decide_true, decide_false, ↓reduceIte, Int.reduceEq, Int.reduceNe, Int.reduceLT, Int.reduceLE, Int.reduceAdd, Int.reduceSub, Int.reduceMul, Int.reduceNeg, Nat.reduceAdd, Nat.reduceEqDiff, Nat.reduceBEq, ↓z_x_eq, z_g_t, z_bI_s, z_bL_s, z_bR_s, z_bV_s, Int.cast_ofNat_Int, beq_self_eq_true, Bool.and_true, Bool.true_and, Bool.and_self, Bool.or_true, Bool.true_or, Bool.false_and, Bool.and_false, Bool.false_or, Bool.or_false, Bool.not_false, Bool.not_true, if_true, if_false, ite_true, ite_false, z_up_eq, z_up_app, z_ro_eq, en]
    · have ke : k_wk w (n + 1) f t G = G := by unfold k_wk; rw [if_neg c]
      rw [ke]
      refine ⟨s, ?_⟩
      rw [e_De_spread_38]
      simp -implicitDefEqProofs (disch := first | assumption | omega | rfl | (simp only [z_up_eq, z_up_app, ↓reduceIte, Nat.reduceEqDiff]; omega)) only [z_lit0, z_lit1, z_lit2, z_litl, iI_add, iI_sub, iI_mul, iI_neg, iI_and, iI_or, iI_xor, iI_shl, iI_shr, iI_ushr, iI_div, iI_b, iI_c, iI_i2l, lI_l2i, lI_add, lI_sub, lI_mul, lI_neg, lI_div, lI_or, lI_and, lI_shl, lI_shr, nI_iI, lg_lt0, lg_gt0, lg_eq0, i_ne0', l_ne0', iI_lt, iI_le, iI_eq, lI_lt, lI_le, lI_eq, zb_0, zb_fit, zb_fit0, zb_fit1, i_one_zero, i_w_in, z_tb0, z_tb1, z_tb2, z_tb3, z_tb4, z_tb5, z_tb6, z_tb7, z_tb8, z_tbl, z_tu0, z_tu1, z_tu2, z_i_62, z_i_63, z_i_86, z_i_88, z_l_Y, z_ui_62, z_ui_63, z_ui_86, z_ui_88, z_ul_Y, z_sz_Y, z_sw_Y, iI_nat, z_ix_t, z_at, Int.add_zero, Int.sub_zero, Int.zero_add, Int.mul_zero, ne_eq, Bool.false_eq_true, Bool.true_eq_false, reduceCtorEq, eq_self, and_true, true_and, and_false, false_and, and_self, not_true_eq_false, not_false_eq_true, decide_true, decide_false, ↓reduceIte, Int.reduceEq, Int.reduceNe, Int.reduceLT, Int.reduceLE, Int.reduceAdd, Int.reduceSub, Int.reduceMul, Int.reduceNeg, Nat.reduceAdd, Nat.reduceEqDiff, Nat.reduceBEq, ↓z_x_eq, z_g_t, z_bI_s, z_bL_s, z_bR_s, z_bV_s, Int.cast_ofNat_Int, beq_self_eq_true, Bool.and_true, Bool.true_and, Bool.and_self, Bool.or_true, Bool.true_or, Bool.false_and, Bool.and_false, Bool.false_or, Bool.or_false, Bool.not_false, Bool.not_true, if_true, if_false, ite_true, ite_false, z_up_eq, z_up_app, z_ro_eq, p_hasSeat, c, zb_f]
theorem p_mwk (d : Nat) (T : ZT) {w p : Int} (hw : w = 1 ∨ w = -1) (hp : i_in p) : ∀ (n : Nat) (f tp cn : Int) (G : ZG) (s : ZG × ZG), m_q G → (0 ≤ f ∧ f < G 81 1) → G 81 (32 + 5 * f + 3) ≠ -1 → (w = 1 → 10 ≤ G 81 (32 + 5 * f + 3) + w + n) → (w = -1 → G 81 (32 + 5 * f + 3) + w < n) → i_in tp → (0 ≤ G 81 (32 + 5 * f + 3) + w → tp = m_sit (G 81) (G 81 (32 + 5 * f + 3) + w)) → ∃ s', z_w d_M_coughNow (z_call (d + 5)) 40 [some (vr 80), some (vi (iI p)), some (vi (iI cn)), some (vi (iI w)), some (vi (iI f)), some (vi (iI tp))] [] (z_Y T G s) = z_w d_M_coughNow (z_call (d + 5)) 8 [some (vr 80), some (vi (iI p)), some (vi (iI (cn + (m_wk (G 83) w n f (G 81) 11 - G 81 11)))), some (vi (iI (w + -2))), none, none] [] (z_Y T (z_up G 81 (m_wk (G 83) w n f (G 81))) s')
  | 0, f, tp, cn, G, s, hQ, hf, ha, w1, w2, ht, hs => by
    have m0 := hQ.1.1
    have m1 := hQ.1.2.1
    have hpp := mo_p hQ.1 f hf.1 hf.2
    have hwi : i_in (G 81 (32 + 5 * f + 3) + w) := by rcases hw with h | h <;> rw [h] <;> exact ⟨by omega, by omega⟩
    refine ⟨s, ?_⟩
    show _ = z_w d_M_coughNow (z_call (d + 5)) 8 [some (vr 80), some (vi (iI p)), some (vi (iI (cn + (G 81 11 - G 81 11)))), some (vi (iI (w + -2))), none, none] [] (z_Y T (z_up G 81 (G 81)) s)
    rw [z_up_id, Int.sub_self, Int.add_zero, e_M_coughNow_40]
    by_cases c : tp = -1
    · simp -implicitDefEqProofs (disch := first | assumption | omega | rfl | (simp only [z_up_eq, z_up_app, ↓reduceIte, Nat.reduceEqDiff]; omega)) only [z_lit0, z_lit1, z_lit2, z_litl, iI_add, iI_sub, iI_mul, iI_neg, iI_and, iI_or, iI_xor, iI_shl, iI_shr, iI_ushr, iI_div, iI_b, iI_c, iI_i2l, lI_l2i, lI_add, lI_sub, lI_mul, lI_neg, lI_div, lI_or, lI_and, lI_shl, lI_shr, nI_iI, lg_lt0, lg_gt0, lg_eq0, i_ne0', l_ne0', iI_lt, iI_le, iI_eq, lI_lt, lI_le, lI_eq, zb_0, zb_fit, zb_fit0, zb_fit1, i_one_zero, i_w_in, z_tb0, z_tb1, z_tb2, z_tb3, z_tb4, z_tb5, z_tb6, z_tb7, z_tb8, z_tbl, z_tu0, z_tu1, z_tu2, z_i_62, z_i_63, z_i_86, z_i_88, z_l_Y, z_ui_62, z_ui_63, z_ui_86, z_ui_88, z_ul_Y, z_sz_Y, z_sw_Y, iI_nat, z_ix_t, z_at, Int.add_zero, Int.sub_zero, Int.zero_add, Int.mul_zero, ne_eq, Bool.false_eq_true, Bool.true_eq_false, reduceCtorEq, eq_self, and_true, true_and, and_false, false_and, and_self, not_true_eq_false, not_false_eq_true, decide_true, decide_false, ↓reduceIte, Int.reduceEq, Int.reduceNe, Int.reduceLT, Int.reduceLE, Int.reduceAdd, Int.reduceSub, Int.reduceMul, Int.reduceNeg, Nat.reduceAdd, Nat.reduceEqDiff, Nat.reduceBEq, ↓z_x_eq, z_g_t, z_bI_s, z_bL_s, z_bR_s, z_bV_s, Int.cast_ofNat_Int, beq_self_eq_true, Bool.and_true, Bool.true_and, Bool.and_self, Bool.or_true, Bool.true_or, Bool.false_and, Bool.and_false, Bool.false_or, Bool.or_false, Bool.not_false, Bool.not_true, if_true, if_false, ite_true, ite_false, z_up_eq, z_up_app, z_ro_eq, c]
    · have cs : (G 81 (32 + 5 * f + 3) + w < 0) = True := eq_true (by
        rcases hw with h | h
        · exfalso
          have h1 := w1 h
          rcases m_sit_or (x := G 81 (32 + 5 * f + 3) + w) hQ.1 with q | ⟨q1, q2, q3⟩
          · exact c ((hs (by omega)).trans q)
          · have := (mo_p hQ.1 _ q1 q2).2.2.2.1
            omega
        · have := w2 h; omega)
      simp -implicitDefEqProofs (disch := first | assumption | omega | rfl | (simp only [z_up_eq, z_up_app, ↓reduceIte, Nat.reduceEqDiff]; omega)) only [z_lit0, z_lit1, z_lit2, z_litl, iI_add, iI_sub, iI_mul, iI_neg, iI_and, iI_or, iI_xor, iI_shl, iI_shr, iI_ushr, iI_div, iI_b, iI_c, iI_i2l, lI_l2i, lI_add, lI_sub, lI_mul, lI_neg, lI_div, lI_or, lI_and, lI_shl, lI_shr, nI_iI, lg_lt0, lg_gt0, lg_eq0, i_ne0', l_ne0', iI_lt, iI_le, iI_eq, lI_lt, lI_le, lI_eq, zb_0, zb_fit, zb_fit0, zb_fit1, i_one_zero, i_w_in, z_tb0, z_tb1, z_tb2, z_tb3, z_tb4, z_tb5, z_tb6, z_tb7, z_tb8, z_tbl, z_tu0, z_tu1, z_tu2, z_i_62, z_i_63, z_i_86, z_i_88, z_l_Y, z_ui_62, z_ui_63, z_ui_86, z_ui_88, z_ul_Y, z_sz_Y, z_sw_Y, iI_nat, z_ix_t, z_at, Int.add_zero, Int.sub_zero, Int.zero_add, Int.mul_zero, ne_eq, Bool.false_eq_true, Bool.true_eq_false, reduceCtorEq, eq_self, and_true, true_and, and_false, false_and, and_self, not_true_eq_false, not_false_eq_true, decide_true, decide_false, ↓reduceIte, Int.reduceEq, Int.reduceNe, Int.reduceLT, Int.reduceLE, Int.reduceAdd, Int.reduceSub, Int.reduceMul, Int.reduceNeg, Nat.reduceAdd, Nat.reduceEqDiff, Nat.reduceBEq, ↓z_x_eq, z_g_t, z_bI_s, z_bL_s, z_bR_s, z_bV_s, Int.cast_ofNat_Int, beq_self_eq_true, Bool.and_true, Bool.true_and, Bool.and_self, Bool.or_true, Bool.true_or, Bool.false_and, Bool.and_false, Bool.false_or, Bool.or_false, Bool.not_false, Bool.not_true, if_true, if_false, ite_true, ite_false, z_up_eq, z_up_app, z_ro_eq, c, p_get, cs]
  | n + 1, f, tp, cn, G, s, hQ, hf, ha, w1, w2, ht, hs => by
    have m0 := hQ.1.1
    have m1 := hQ.1.2.1
    have m4 := hQ.1.2.2.2.2.1
    have m11 := hQ.1.2.2.2.2.2.2.2.2.2.2.2.1
    have hpp := mo_p hQ.1 f hf.1 hf.2
    generalize hst : G 81 (32 + 5 * f + 3) + w = st at *
    have hwi : i_in st := by rcases hw with h | h <;> exact ⟨by omega, by omega⟩
    by_cases c1 : 0 ≤ st
    · have e := hs c1
      have c1' : (st < 0) = False := eq_false (by omega)
      by_cases c2 : m_sit (G 81) st = -1
      · have ke : m_wk (G 83) w (n + 1) f (G 81) = G 81 := by unfold m_wk; rw [hst, if_pos c1, if_pos c2]
        rw [ke, z_up_id, Int.sub_self, Int.add_zero]
        refine ⟨s, ?_⟩
        rw [e_M_coughNow_40, e]
        simp -implicitDefEqProofs (disch := first | assumption | omega | rfl | (simp only [z_up_eq, z_up_app, ↓reduceIte, Nat.reduceEqDiff]; omega)) only [z_lit0, z_lit1, z_lit2, z_litl, iI_add, iI_sub, iI_mul, iI_neg, iI_and, iI_or, iI_xor, iI_shl, iI_shr, iI_ushr, iI_div, iI_b, iI_c, iI_i2l, lI_l2i, lI_add, lI_sub, lI_mul, lI_neg, lI_div, lI_or, lI_and, lI_shl, lI_shr, nI_iI, lg_lt0, lg_gt0, lg_eq0, i_ne0', l_ne0', iI_lt, iI_le, iI_eq, lI_lt, lI_le, lI_eq, zb_0, zb_fit, zb_fit0, zb_fit1, i_one_zero, i_w_in, z_tb0, z_tb1, z_tb2, z_tb3, z_tb4, z_tb5, z_tb6, z_tb7, z_tb8, z_tbl, z_tu0, z_tu1, z_tu2, z_i_62, z_i_63, z_i_86, z_i_88, z_l_Y, z_ui_62, z_ui_63, z_ui_86, z_ui_88, z_ul_Y, z_sz_Y, z_sw_Y, iI_nat, z_ix_t, z_at, Int.add_zero, Int.sub_zero, Int.zero_add, Int.mul_zero, ne_eq, Bool.false_eq_true, Bool.true_eq_false, reduceCtorEq, eq_self, and_true, true_and, and_false, false_and, and_self, not_true_eq_false, not_false_eq_true, decide_true, decide_false, ↓reduceIte, Int.reduceEq, Int.reduceNe, Int.reduceLT, Int.reduceLE, Int.reduceAdd, Int.reduceSub, Int.reduceMul, Int.reduceNeg, Nat.reduceAdd, Nat.reduceEqDiff, Nat.reduceBEq, ↓z_x_eq, z_g_t, z_bI_s, z_bL_s, z_bR_s, z_bV_s, Int.cast_ofNat_Int, beq_self_eq_true, Bool.and_true, Bool.true_and, Bool.and_self, Bool.or_true, Bool.true_or, Bool.false_and, Bool.and_false, Bool.false_or, Bool.or_false, Bool.not_false, Bool.not_true, if_true, if_false, ite_true, ite_false, z_up_eq, z_up_app, z_ro_eq, c2]
      · have e1 : m_dr (G 81) 1 = G 81 1 := z_ro_ne _ _ (by omega)
        have e2 : m_dr (G 81) (32 + 5 * f + 3) = G 81 (32 + 5 * f + 3) := z_ro_ne _ _ (by omega)
        have e5 : m_dr (G 81) 5 = G 81 5 := z_ro_ne _ _ (by omega)
        have e11 : m_dr (G 81) 11 = G 81 11 := z_ro_ne _ _ (by omega)
        have hQd : m_q (z_up G 81 (m_dr (G 81))) := by
          unfold m_q
          rw [z_up_eq, z_up_ne _ _ (show 83 ≠ 81 by omega), z_up_ne _ _ (show 80 ≠ 81 by omega), e5]
          exact ⟨m_dr_ok hQ.1, hQ.2⟩
        have dw := fun s => p_drawn (d + 3) T G s hQ.1
        obtain ⟨v, τ, ep, rfl, s1, rfl⟩ := p_mpasses d T (z_up G 81 (m_dr (G 81))) s (p := f) hQd (by rw [z_up_eq, e1]; exact hf) (by rw [z_up_eq, e2]; exact ha)
        rw [z_up_eq, z_up_ne _ _ (show 83 ≠ 81 by omega)] at ep
        have pin := m_passes_in (m_dr (G 81)) (G 83) f
        rcases m_sit_or (x := st) hQ.1 with h | ⟨h1, h2, h3⟩
        · exact absurd h c2
        · by_cases c3 : G 81 4 % 10 < m_passes (m_dr (G 81)) (G 83) f
          · have c3' : (G 81 4 % 10 < m_passes (m_dr (G 81)) (G 83) f) = True := eq_true c3
            have ke : m_wk (G 83) w (n + 1) f (G 81) = m_wk (G 83) w n (m_sit (G 81) st) (m_cg (m_dr (G 81)) (m_sit (G 81) st)) := by
              show (if _ then _ else _) = _
              rw [hst, if_pos c1, if_neg c2, if_pos c3]
            have okd := m_dr_ok hQ.1
            have okc := m_cg_ok (p := m_sit (G 81) st) okd ⟨h1, by omega⟩
            have fr : m_fr (G 81) (m_cg (m_dr (G 81)) (m_sit (G 81) st)) := m_fr_tr (m_dr_fr _) (m_cg_fr _ _ (by rw [e11]; exact m11.1))
            have f1 := fr 1 (by omega) (by omega) (by omega)
            have f3 := fr (32 + 5 * m_sit (G 81) st + 3) (by omega) (by omega) (by omega)
            have f5 := fr 5 (by omega) (by omega) (by omega)
            have ss := fun x => m_fr_sit fr m1 x
            have mcg := fun s => p_mcoughs (d + 3) T (z_up G 81 (m_dr (G 81))) s (p := m_sit (G 81) st) (by rw [z_up_eq]; exact okd) ⟨by omega, by omega⟩
            rw [z_up_eq, z_up_up] at mcg
            have c11 : 0 ≤ m_cg (m_dr (G 81)) (m_sit (G 81) st) 11 ∧ m_cg (m_dr (G 81)) (m_sit (G 81) st) 11 ≤ 20 := okc.2.2.2.2.2.2.2.2.2.2.2.1
            have hQ2 : m_q (z_up G 81 (m_cg (m_dr (G 81)) (m_sit (G 81) st))) := by
              unfold m_q
              rw [z_up_eq, z_up_ne _ _ (show 83 ≠ 81 by omega), z_up_ne _ _ (show 80 ≠ 81 by omega), f5]
              exact ⟨okc, hQ.2⟩
            have gt := fun (p w : Int) h s => p_get (d + 4) T (z_up G 81 (m_cg (m_dr (G 81)) (m_sit (G 81) st))) s (p := p) (w := w) h
            rw [z_up_eq] at gt
            have gt1 := fun s => gt (m_sit (G 81) st) 3 (by omega) s
            rw [f3, h3] at gt1
            have so := fun s => p_sitterOf (d + 3) T (z_up G 81 (m_cg (m_dr (G 81)) (m_sit (G 81) st))) s (x := st + w) (by rcases hw with h | h <;> rw [h] <;> exact ⟨by omega, by omega⟩) (by rw [z_up_eq]; exact okc)
            rw [z_up_eq, ss] at so
            have hwi2 : i_in (st + w) := by rcases hw with h | h <;> rw [h] <;> exact ⟨by omega, by omega⟩
            have sin2 : i_in (m_sit (G 81) (st + w)) := by
              rcases m_sit_or (x := st + w) hQ.1 with q | ⟨q1, q2, q3⟩
              · rw [q]; exact ⟨by omega, by omega⟩
              · exact ⟨by omega, by omega⟩
            have ih := fun tp cn s2 ht hs => p_mwk d T hw hp n (m_sit (G 81) st) tp cn (z_up G 81 (m_cg (m_dr (G 81)) (m_sit (G 81) st))) s2 hQ2 (by rw [z_up_eq, f1]; exact ⟨h1, h2⟩) (by rw [z_up_eq, f3, h3]; omega) (fun h => by rw [z_up_eq, f3, h3]; have := w1 h; omega) (fun h => by rw [z_up_eq, f3, h3]; have := w2 h; omega) ht hs
            rw [z_up_eq, z_up_up, z_up_ne _ _ (show 83 ≠ 81 by omega), f3, h3] at ih
            rw [ke]
            have cne : ∀ a b : Int, cn + (a - G 81 11) + (b - a) = cn + (b - G 81 11) := fun a b => by omega
            by_cases c4 : st + w < 0
            · have c4' : (st + w < 0) = True := eq_true c4
              obtain ⟨s2, ih⟩ := ih (-1) (cn + (m_cg (m_dr (G 81)) (m_sit (G 81) st) 11 - G 81 11)) s1 ⟨by omega, by omega⟩ (fun h => by omega)
              rw [cne] at ih
              refine ⟨s2, ?_⟩
              rw [← ih, e_M_coughNow_40, e]
              simp -implicitDefEqProofs (disch := first | assumption | omega | rfl | (simp only [z_up_eq, z_up_app, ↓reduceIte, Nat.reduceEqDiff]; omega)) only [z_lit0, z_lit1, z_lit2, z_litl, iI_add, iI_sub, iI_mul, iI_neg, iI_and, iI_or, iI_xor, iI_shl, iI_shr, iI_ushr, iI_div, iI_b, iI_c, iI_i2l, lI_l2i, lI_add, lI_sub, lI_mul, lI_neg, lI_div, lI_or, lI_and, lI_shl, lI_shr, nI_iI, lg_lt0, lg_gt0, lg_eq0, i_ne0', l_ne0', iI_lt, iI_le, iI_eq, lI_lt, lI_le, lI_eq, zb_0, zb_fit, zb_fit0, zb_fit1, i_one_zero, i_w_in, z_tb0, z_tb1, z_tb2, z_tb3, z_tb4, z_tb5, z_tb6, z_tb7, z_tb8, z_tbl, z_tu0, z_tu1, z_tu2, z_i_62, z_i_63, z_i_86, z_i_88, z_l_Y, z_ui_62, z_ui_63, z_ui_86, z_ui_88, z_ul_Y, z_sz_Y, z_sw_Y, iI_nat, z_ix_t, z_at, Int.add_zero, Int.sub_zero, Int.zero_add, Int.mul_zero, ne_eq, Bool.false_eq_true, Bool.true_eq_false, reduceCtorEq, eq_self, and_true, true_and, and_false, false_and, and_self, not_true_eq_false, not_false_eq_true, decide_true, decide_false, ↓reduceIte, Int.reduceEq, Int.reduceNe, Int.reduceLT, Int.reduceLE, Int.reduceAdd, Int.reduceSub, Int.reduceMul, Int.reduceNeg, Nat.reduceAdd, Nat.reduceEqDiff, Nat.reduceBEq, ↓z_x_eq, z_g_t, z_bI_s, z_bL_s, z_bR_s, z_bV_s, Int.cast_ofNat_Int, beq_self_eq_true, Bool.and_true, Bool.true_and, Bool.and_self, Bool.or_true, Bool.true_or, Bool.false_and, Bool.and_false, Bool.false_or, Bool.or_false, Bool.not_false, Bool.not_true, if_true, if_false, ite_true, ite_false, z_up_eq, z_up_app, z_ro_eq, c2, p_get, hst, c1', dw, ep, c3', mcg, e11, gt1, c4']
            · have c4' : (st + w < 0) = False := eq_false c4
              obtain ⟨s2, ih⟩ := ih (m_sit (G 81) (st + w)) (cn + (m_cg (m_dr (G 81)) (m_sit (G 81) st) 11 - G 81 11)) s1 sin2 (fun h => by rw [ss])
              rw [cne] at ih
              refine ⟨s2, ?_⟩
              rw [← ih, e_M_coughNow_40, e]
              simp -implicitDefEqProofs (disch := first | assumption | omega | rfl | (simp only [z_up_eq, z_up_app, ↓reduceIte, Nat.reduceEqDiff]; omega)) only [z_lit0, z_lit1, z_lit2, z_litl, iI_add, iI_sub, iI_mul, iI_neg, iI_and, iI_or, iI_xor, iI_shl, iI_shr, iI_ushr, iI_div, iI_b, iI_c, iI_i2l, lI_l2i, lI_add, lI_sub, lI_mul, lI_neg, lI_div, lI_or, lI_and, lI_shl, lI_shr, nI_iI, lg_lt0, lg_gt0, lg_eq0, i_ne0', l_ne0', iI_lt, iI_le, iI_eq, lI_lt, lI_le, lI_eq, zb_0, zb_fit, zb_fit0, zb_fit1, i_one_zero, i_w_in, z_tb0, z_tb1, z_tb2, z_tb3, z_tb4, z_tb5, z_tb6, z_tb7, z_tb8, z_tbl, z_tu0, z_tu1, z_tu2, z_i_62, z_i_63, z_i_86, z_i_88, z_l_Y, z_ui_62, z_ui_63, z_ui_86, z_ui_88, z_ul_Y, z_sz_Y, z_sw_Y, iI_nat, z_ix_t, z_at, Int.add_zero, Int.sub_zero, Int.zero_add, Int.mul_zero, ne_eq, Bool.false_eq_true, Bool.true_eq_false, reduceCtorEq, eq_self, and_true, true_and, and_false, false_and, and_self, not_true_eq_false, not_false_eq_true, decide_true, decide_false, ↓reduceIte, Int.reduceEq, Int.reduceNe, Int.reduceLT, Int.reduceLE, Int.reduceAdd, Int.reduceSub, Int.reduceMul, Int.reduceNeg, Nat.reduceAdd, Nat.reduceEqDiff, Nat.reduceBEq, ↓z_x_eq, z_g_t, z_bI_s, z_bL_s, z_bR_s, z_bV_s, Int.cast_ofNat_Int, beq_self_eq_true, Bool.and_true, Bool.true_and, Bool.and_self, Bool.or_true, Bool.true_or, Bool.false_and, Bool.and_false, Bool.false_or, Bool.or_false, Bool.not_false, Bool.not_true, if_true, if_false, ite_true, ite_false, z_up_eq, z_up_app, z_ro_eq, c2, p_get, hst, c1', dw, ep, c3', mcg, e11, gt1, c4', so]
          · have c3' : (G 81 4 % 10 < m_passes (m_dr (G 81)) (G 83) f) = False := eq_false c3
            have ke : m_wk (G 83) w (n + 1) f (G 81) = m_dr (G 81) := by
              show (if _ then _ else _) = _
              rw [hst, if_pos c1, if_neg c2, if_neg c3]
            rw [ke, e11, Int.sub_self, Int.add_zero]
            refine ⟨s1, ?_⟩
            rw [e_M_coughNow_40, e]
            simp -implicitDefEqProofs (disch := first | assumption | omega | rfl | (simp only [z_up_eq, z_up_app, ↓reduceIte, Nat.reduceEqDiff]; omega)) only [z_lit0, z_lit1, z_lit2, z_litl, iI_add, iI_sub, iI_mul, iI_neg, iI_and, iI_or, iI_xor, iI_shl, iI_shr, iI_ushr, iI_div, iI_b, iI_c, iI_i2l, lI_l2i, lI_add, lI_sub, lI_mul, lI_neg, lI_div, lI_or, lI_and, lI_shl, lI_shr, nI_iI, lg_lt0, lg_gt0, lg_eq0, i_ne0', l_ne0', iI_lt, iI_le, iI_eq, lI_lt, lI_le, lI_eq, zb_0, zb_fit, zb_fit0, zb_fit1, i_one_zero, i_w_in, z_tb0, z_tb1, z_tb2, z_tb3, z_tb4, z_tb5, z_tb6, z_tb7, z_tb8, z_tbl, z_tu0, z_tu1, z_tu2, z_i_62, z_i_63, z_i_86, z_i_88, z_l_Y, z_ui_62, z_ui_63, z_ui_86, z_ui_88, z_ul_Y, z_sz_Y, z_sw_Y, iI_nat, z_ix_t, z_at, Int.add_zero, Int.sub_zero, Int.zero_add, Int.mul_zero, ne_eq, Bool.false_eq_true, Bool.true_eq_false, reduceCtorEq, eq_self, and_true, true_and, and_false, false_and, and_self, not_true_eq_false, not_false_eq_true, decide_true, decide_false, ↓reduceIte, Int.reduceEq, Int.reduceNe, Int.reduceLT, Int.reduceLE, Int.reduceAdd, Int.reduceSub, Int.reduceMul, Int.reduceNeg, Nat.reduceAdd, Nat.reduceEqDiff, Nat.reduceBEq, ↓z_x_eq, z_g_t, z_bI_s, z_bL_s, z_bR_s, z_bV_s, Int.cast_ofNat_Int, beq_self_eq_true, Bool.and_true, Bool.true_and, Bool.and_self, Bool.or_true, Bool.true_or, Bool.false_and, Bool.and_false, Bool.false_or, Bool.or_false, Bool.not_false, Bool.not_true, if_true, if_false, ite_true, ite_false, z_up_eq, z_up_app, z_ro_eq, c2, p_get, hst, c1', dw, ep, c3']
    · have c1' : (st < 0) = True := eq_true (by omega)
      have ke : m_wk (G 83) w (n + 1) f (G 81) = G 81 := by
        show (if _ then _ else _) = _
        rw [hst, if_neg c1]
      rw [ke, z_up_id, Int.sub_self, Int.add_zero]
      refine ⟨s, ?_⟩
      rw [e_M_coughNow_40]
      by_cases c : tp = -1
      · simp -implicitDefEqProofs (disch := first | assumption | omega | rfl | (simp only [z_up_eq, z_up_app, ↓reduceIte, Nat.reduceEqDiff]; omega)) only [z_lit0, z_lit1, z_lit2, z_litl, iI_add, iI_sub, iI_mul, iI_neg, iI_and, iI_or, iI_xor, iI_shl, iI_shr, iI_ushr, iI_div, iI_b, iI_c, iI_i2l, lI_l2i, lI_add, lI_sub, lI_mul, lI_neg, lI_div, lI_or, lI_and, lI_shl, lI_shr, nI_iI, lg_lt0, lg_gt0, lg_eq0, i_ne0', l_ne0', iI_lt, iI_le, iI_eq, lI_lt, lI_le, lI_eq, zb_0, zb_fit, zb_fit0, zb_fit1, i_one_zero, i_w_in, z_tb0, z_tb1, z_tb2, z_tb3, z_tb4, z_tb5, z_tb6, z_tb7, z_tb8, z_tbl, z_tu0, z_tu1, z_tu2, z_i_62, z_i_63, z_i_86, z_i_88, z_l_Y, z_ui_62, z_ui_63, z_ui_86, z_ui_88, z_ul_Y, z_sz_Y, z_sw_Y, iI_nat, z_ix_t, z_at, Int.add_zero, Int.sub_zero, Int.zero_add, Int.mul_zero, ne_eq, Bool.false_eq_true, Bool.true_eq_false, reduceCtorEq, eq_self, and_true, true_and, and_false, false_and, and_self, not_true_eq_false, not_false_eq_true, decide_true, decide_false, ↓reduceIte, Int.reduceEq, Int.reduceNe, Int.reduceLT, Int.reduceLE, Int.reduceAdd, Int.reduceSub, Int.reduceMul, Int.reduceNeg, Nat.reduceAdd, Nat.reduceEqDiff, Nat.reduceBEq, ↓z_x_eq, z_g_t, z_bI_s, z_bL_s, z_bR_s, z_bV_s, Int.cast_ofNat_Int, beq_self_eq_true, Bool.and_true, Bool.true_and, Bool.and_self, Bool.or_true, Bool.true_or, Bool.false_and, Bool.and_false, Bool.false_or, Bool.or_false, Bool.not_false, Bool.not_true, if_true, if_false, ite_true, ite_false, z_up_eq, z_up_app, z_ro_eq, c]
      · simp -implicitDefEqProofs (disch := first | assumption | omega | rfl | (simp only [z_up_eq, z_up_app, ↓reduceIte, Nat.reduceEqDiff]; omega)) only [z_lit0, z_lit1, z_lit2, z_litl, iI_add, iI_sub, iI_mul, iI_neg, iI_and, iI_or, iI_xor, iI_shl, iI_shr, iI_ushr, iI_div, iI_b, iI_c, iI_i2l, lI_l2i, lI_add, lI_sub, lI_mul, lI_neg, lI_div, lI_or, lI_and, lI_shl, lI_shr, nI_iI, lg_lt0, lg_gt0, lg_eq0, i_ne0', l_ne0', iI_lt, iI_le, iI_eq, lI_lt, lI_le, lI_eq, zb_0, zb_fit, zb_fit0, zb_fit1, i_one_zero, i_w_in, z_tb0, z_tb1, z_tb2, z_tb3, z_tb4, z_tb5, z_tb6, z_tb7, z_tb8, z_tbl, z_tu0, z_tu1, z_tu2, z_i_62, z_i_63, z_i_86, z_i_88, z_l_Y, z_ui_62, z_ui_63, z_ui_86, z_ui_88, z_ul_Y, z_sz_Y, z_sw_Y, iI_nat, z_ix_t, z_at, Int.add_zero, Int.sub_zero, Int.zero_add, Int.mul_zero, ne_eq, Bool.false_eq_true, Bool.true_eq_false, reduceCtorEq, eq_self, and_true, true_and, and_false, false_and, and_self, not_true_eq_false, not_false_eq_true, decide_true, decide_false, ↓reduceIte, Int.reduceEq, Int.reduceNe, Int.reduceLT, Int.reduceLE, Int.reduceAdd, Int.reduceSub, Int.reduceMul, Int.reduceNeg, Nat.reduceAdd, Nat.reduceEqDiff, Nat.reduceBEq, ↓z_x_eq, z_g_t, z_bI_s, z_bL_s, z_bR_s, z_bV_s, Int.cast_ofNat_Int, beq_self_eq_true, Bool.and_true, Bool.true_and, Bool.and_self, Bool.or_true, Bool.true_or, Bool.false_and, Bool.and_false, Bool.false_or, Bool.or_false, Bool.not_false, Bool.not_true, if_true, if_false, ite_true, ite_false, z_up_eq, z_up_app, z_ro_eq, c, p_get, hst, c1']

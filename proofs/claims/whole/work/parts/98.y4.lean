/-! THE PURE PART, 103: text, both sides -/
theorem D_tx {A : Int → Int} {G : ZG} (hC : c_nw A G) {x : Int} (hx : 0 ≤ x ∧ x ≤ 4 ∧ A 6 < x) : c_nw (z_ro A 5 x) (z_up G 11 (z_ro (G 11) 10 x)) := by
  obtain ⟨hM, hI, ⟨h1, h2, h3, h4, h5, h6, h8, h9⟩, ⟨o1, o2, o3, o4⟩, ⟨t1, t2, t3, t4⟩, ⟨p1, p2, p3, p4⟩⟩ := hC
  obtain ⟨m0, m1, m2, m3, m4, m5, m6, m7, m8, m9, m10, m11, ms, mp, mn, mc, mb, me⟩ := hM
  have em : ∀ k, k ≠ 5 → z_ro A 5 x k = A k := fun k a => z_ro_ne _ _ a
  have eg : ∀ r, r ≠ 11 → z_up G 11 (z_ro (G 11) 10 x) r = G r := fun r a => z_up_ne _ _ a
  have eh : ∀ k, k ≠ 10 → z_up G 11 (z_ro (G 11) 10 x) 11 k = G 11 k := fun k a => by rw [z_up_eq, z_ro_ne _ _ a]
  have e6 : z_ro A 5 x 5 = x := z_ro_eq _ _ _
  have g6 : z_up G 11 (z_ro (G 11) 10 x) 11 10 = x := by rw [z_up_eq, z_ro_eq]
  generalize z_ro A 5 x = A' at *
  generalize z_up G 11 (z_ro (G 11) 10 x) = G' at *
  refine ⟨?_, ?_, ?_, ?_, ?_, ?_⟩
  · unfold m_ok
    rw [em 0 (by omega), em 1 (by omega), em 2 (by omega), em 3 (by omega), em 4 (by omega), e6, em 6 (by omega), em 7 (by omega), em 8 (by omega), em 9 (by omega), em 10 (by omega), em 11 (by omega)]
    refine ⟨m0, m1, m2, m3, m4, ⟨hx.1, hx.2.1⟩, ⟨m6.1, hx.2.2⟩, m7, m8, m9, m10, m11, fun k a b => ?_, fun k a b => ?_, fun k a b => ?_, fun k a b => ?_, fun k a b => ?_, fun k a b => ?_⟩
    · rw [em _ (by omega), em _ (by omega)]; exact ms k a b
    · rw [em _ (by omega), em _ (by omega), em _ (by omega), em _ (by omega), em _ (by omega)]; exact mp k a b
    · rw [em _ (by omega), em _ (by omega)]; exact mn k a b
    · rw [em _ (by omega), em _ (by omega)]; exact mc k a b
    · rw [em _ (by omega), em _ (by omega)]; exact mb k a b
    · rw [em _ (by omega), em _ (by omega), em _ (by omega)]; exact me k a b
  · intro p q a b a' b' f
    rw [em 1 (by omega)] at b b'
    rw [em _ (by omega), em _ (by omega)] at f
    rw [em _ (by omega)]
    exact hI p q a b a' b' f
  · unfold c_hs
    dsimp only
    simp only [Nat.reduceAdd]
    rw [eh 0 (by omega), eh 3 (by omega), eh 7 (by omega), g6, eh 12 (by omega), eg 12 (by omega), eg 13 (by omega), eg 14 (by omega), eg 15 (by omega), eg 16 (by omega), eg 17 (by omega), eg 18 (by omega), em 0 (by omega), em 1 (by omega), em 2 (by omega), e6, em 6 (by omega)]
    refine ⟨h1, h2, h3, rfl, h5, fun k a b => ?_, fun k a b => ?_, fun k a b => ?_⟩
    · rw [em _ (by omega), em _ (by omega)]; exact h6 k a b
    · rw [em _ (by omega), em _ (by omega), em _ (by omega)]; exact h8 k a b
    · rw [em _ (by omega), em _ (by omega)]; exact h9 k a b
  · unfold c_mo
    dsimp only
    rw [eg (11 + 9) (by omega), eg (11 + 10) (by omega), eg (11 + 11) (by omega), eg (11 + 12) (by omega), eg (11 + 13) (by omega), em 1 (by omega), em 3 (by omega), em 4 (by omega), em 8 (by omega), em 11 (by omega)]
    refine ⟨o1, fun k a b => ?_, o3, fun k a b => ?_⟩
    · rw [em _ (by omega), em _ (by omega)]; exact o2 k a b
    · rw [em _ (by omega), em _ (by omega)]; exact o4 k a b
  · unfold c_to
    dsimp only
    rw [eg (11 + 16) (by omega), eg (11 + 17) (by omega), eg (11 + 18) (by omega), eg (11 + 19) (by omega), eg (11 + 20) (by omega), eg (11 + 21) (by omega), em 9 (by omega), em 10 (by omega)]
    refine ⟨t1, fun k a b => ?_, t3, fun k a b => ?_⟩
    · rw [em _ (by omega), em _ (by omega)]; exact t2 k a b
    · rw [em _ (by omega), em _ (by omega), em _ (by omega)]; exact t4 k a b
  · unfold c_sp
    dsimp only
    rw [eg (11 + 14) (by omega), eg (11 + 15) (by omega), em 7 (by omega)]
    refine ⟨p1, p2, fun j a b => ?_, fun i j a b c => ?_⟩
    · exact st_tr (p3 j a b) (fun _ _ _ => rfl) (fun k a b => em _ (by omega)) (by rw [em 0 (by omega)]; omega) (by rw [em 1 (by omega)]; omega) (by rw [em 11 (by omega)]; omega) (by omega) (by omega) (fun k a b => em _ (by omega))
    · rw [em _ (by omega), em _ (by omega)]; exact p4 i j a b c
theorem I_tx {S0 : ZG} {c : Int} {T T' : ZT} {G G' : ZG} (h : z_I S0 c T G) (hc : c < 600) (hs : T.2.2.1 ≤ T'.2.2.1 ∧ T'.2.2.1 ≤ T.2.2.1 + 5 ∧ T'.2.2.2 ≤ T.2.2.2 + 1000) (k1 : ∀ a, a < T.2.2.1 → T'.1 a = T.1 a) (k2 : ∀ a k, a < T.2.2.1 → a ≠ 56 → a ≠ 19 → T'.2.1 a k = T.2.1 a k) (g : ∀ a, a < T.2.2.1 → ¬ (56 ≤ a ∧ a ≤ 60) → a ≠ 10 → a ≠ 11 → a ≠ 80 → a ≠ 81 → a ≠ 83 → a ≠ 85 → G' a = G a) (g80 : G' 80 4 = 0 ∧ G' 80 24 = G 80 24 ∧ G' 80 25 = G 80 25) (g10 : G' 10 9 = 0) (x83 : ∀ i, i < 705 * G 81 5 → G' 83 i = G 83 i) (fl : z_flt G') (nw : c_now G') (n5 : (G' 81 5 = G 81 5 ∧ ∀ k, T'.2.1 19 k = T.2.1 19 k) ∨ (G' 81 5 = G 81 5 + 1 ∧ x_ok (G' 83) (G 81 5) ∧ t_txt T' G' (G 81 5) (z_rt T' 19 (G 81 5).toNat) ∧ t_lt T' (z_rt T' 19 (G 81 5).toNat) ∧ ∀ k, k ≠ (G 81 5).toNat → T'.2.1 19 k = T.2.1 19 k)) : z_I S0 (c + 1) T' G' := by
  refine ⟨nw, ?_⟩
  have a5 := h.1.1.2.2.2.2.2.1
  obtain ⟨f1, f2, f3, f4, f5, f6, f7, f8, f9, f10, f11, f12, f13⟩ := h.2
  obtain ⟨o1, o2, o3, o4⟩ := f3
  have g82 : G' 82 = G 82 := g 82 (by omega) (by omega) (by omega) (by omega) (by omega) (by omega) (by omega) (by omega)
  have i5 := f2.1.2.2.2.2.2.1
  have r41 : ∀ k, z_rt T' 41 k = z_rt T 41 k := fun k => z_rt_cg (k2 41 k (by omega) (by omega) (by omega))
  have r19 : ∀ k : Nat, (k : Int) < G 81 5 → z_rt T' 19 k = z_rt T 19 k := fun k hk => z_rt_cg (by
    rcases n5 with n | n
    · exact n.2 k
    · exact n.2.2.2.2 k (by omega))
  have lt : ∀ r, t_lt T r → 98 ≤ r → t_lt T' r := fun r l hr => by
    obtain ⟨l0, l1, l2, l3, l4⟩ := l
    have rt : ∀ k, z_rt T' r k = z_rt T r k := fun k => z_rt_cg (k2 r k l0 (by omega) (by omega))
    exact ⟨by omega, by rw [rt]; omega, by rw [rt]; omega, by rw [rt]; omega, by rw [rt]; omega⟩
  have e83 : ∀ t, 0 ≤ t → t < G 81 5 → ∀ i, 705 * t ≤ i → i < 705 * t + 705 → G' 83 i = G 83 i := fun t a b i x y => x83 i (by omega)
  have gg : ∀ a, 98 ≤ a → a < T.2.2.1 → G' a = G a := fun a x y => g a y (by omega) (by omega) (by omega) (by omega) (by omega) (by omega) (by omega)
  have kk : ∀ a k, 98 ≤ a → a < T.2.2.1 → T'.2.1 a k = T.2.1 a k := fun a k x y => k2 a k y (by omega) (by omega)
  have old : ∀ t, 0 ≤ t → t < G 81 5 → x_ok (G' 83) t ∧ t_txt T' G' t (z_rt T' 19 t.toNat) ∧ t_lt T' (z_rt T' 19 t.toNat) := fun t a b => by
    have tx := o2 t a b
    rw [r19 t.toNat (by omega)]
    exact ⟨x_ok_keep (e83 t a b) (o1 t a b), t_txt_keep (o1 t a b) (e83 t a b) (f4 t a b) k1 kk gg tx, lt _ (f4 t a b) tx.1⟩
  have cov : ∀ t, 0 ≤ t → t < G' 81 5 → x_ok (G' 83) t ∧ t_txt T' G' t (z_rt T' 19 t.toNat) ∧ t_lt T' (z_rt T' 19 t.toNat) := fun t a b => by
    by_cases z : t < G 81 5
    · exact old t a z
    · rcases n5 with n | n
      · omega
      · have et : t = G 81 5 := by omega
        rw [et]; exact ⟨n.2.1, n.2.2.1, n.2.2.2.1⟩
  have m5 : G 81 5 ≤ G' 81 5 := by rcases n5 with n | n <;> omega
  refine ⟨fun r q => ?_, c_img_eq (fun r a b => g r (by omega) (by omega) (by omega) (by omega) (by omega) (by omega) (by omega) (by omega)) g82 f2, ⟨fun t a b => (cov t a b).1, fun t a b => (cov t a b).2.1, by rw [g82]; omega, ?_⟩, fun t a b => (cov t a b).2.2, ?_, ?_, ?_, fl, ?_, by omega, by omega, by omega, ?_⟩
  · rw [g r (by omega) (by omega) (by omega) (by omega) (by omega) (by omega) (by omega) (by omega)]; exact f1 r q
  · intro t a b
    rw [g82] at b
    rw [r41]
    exact t_txt_keep (o1 t a (by omega)) (e83 t a (by omega)) (f5 t a b) k1 kk gg (o4 t a b)
  · intro t a b
    rw [g82] at b
    rw [r41]
    exact lt _ (f5 t a b) (o4 t a b).1
  · rw [g80.2.1, g80.2.2]; exact f6
  · unfold z_tape
    rw [g80.1, g10]
    exact ⟨⟨by omega, by omega⟩, rfl, fun k a b => by omega⟩
  · exact z_ask_up f9 (g 61 (by omega) (by omega) (by omega) (by omega) (by omega) (by omega) (by omega) (by omega)) (g 64 (by omega) (by omega) (by omega) (by omega) (by omega) (by omega) (by omega) (by omega))
  · unfold z_ts
    rw [g82]
    refine ⟨fun k a b => ?_, fun k a b => ?_⟩
    · have z : z_rt T' 19 k = z_rt T 19 k := z_rt_cg (by
        rcases n5 with n | n
        · exact n.2 k
        · exact n.2.2.2.2 k (by omega))
      rw [z]; exact f13.1 k a (by omega)
    · rw [r41]; exact f13.2 k a b
theorem p_addText {E : Nat} (hE : 1 ≤ E) (T : ZT) (G : ZG) (s : ZG × ZG) {n : Int} {r : Nat} (h : G 11 10 = n) (hn : 0 ≤ n ∧ n < 4) (hr : 98 ≤ r) (h9 : T.1 r = (9, 0)) : z_call E 74 [vr 11, vr r] (z_Y T G s) = some (vi (iI n), z_Y (z_ut T 19 n.toNat r) (z_up G 11 (z_ro (G 11) 10 (n + 1))) s) := by
  obtain ⟨d, rfl⟩ : ∃ d, E = d + 1 := ⟨E - 1, by omega⟩
  have kd : z_kd (z_Y T G s) r = 9 := by rw [z_kd_hi hr, h9]
  have r0 : (r == 0) = false := beq_false_of_ne (by omega)
  have q9 : ((9 : Nat) == 9) = true := rfl
  have c1 : (n < 4) = True := eq_true hn.2
  rw [e_H_addText]
  have cn : (iI n).toNatClampNeg = n.toNat := by have := iI_nat (a := n) (by omega); omega
  have n1 : n + 1 - 1 = n := by omega
  simp -implicitDefEqProofs (disch := first | assumption | omega | rfl | (simp only [z_up_eq, z_up_app, ↓reduceIte, Nat.reduceEqDiff]; omega)) only [z_lit0, z_lit1, z_lit2, z_litl, iI_add, iI_sub, iI_mul, iI_neg, iI_and, iI_or, iI_xor, iI_shl, iI_shr, iI_ushr, iI_div, iI_b, iI_c, iI_i2l, lI_l2i, lI_add, lI_sub, lI_mul, lI_neg, lI_div, lI_or, lI_and, lI_shl, lI_shr, nI_iI, lg_lt0, lg_gt0, lg_eq0, i_ne0', l_ne0', iI_lt, iI_le, iI_eq, lI_lt, lI_le, lI_eq, zb_0, zb_fit, zb_fit0, zb_fit1, i_one_zero, i_w_in, z_tb0, z_tb1, z_tb2, z_tb3, z_tb4, z_tb5, z_tb6, z_tb7, z_tb8, z_tbl, z_tu0, z_tu1, z_tu2, z_i_62, z_i_63, z_i_86, z_i_88, z_l_Y, z_ui_62, z_ui_63, z_ui_86, z_ui_88, z_ul_Y, z_sz_Y, z_sw_Y, iI_nat, z_ix_t, z_at, Int.add_zero, Int.sub_zero, Int.zero_add, Int.mul_zero, ne_eq, Bool.false_eq_true, Bool.true_eq_false, reduceCtorEq, eq_self, and_true, true_and, and_false, false_and, and_self, not_true_eq_false, not_false_eq_true, decide_true, decide_false, ↓reduceIte, Int.reduceEq, Int.reduceNe, Int.reduceLT, Int.reduceLE, Int.reduceAdd, Int.reduceSub, Int.reduceMul, Int.reduceNeg, Nat.reduceAdd, Nat.reduceEqDiff, Nat.reduceBEq, ↓z_x_eq, z_g_t, z_bI_s, z_bL_s, z_bR_s, z_bV_s, Int.cast_ofNat_Int, beq_self_eq_true, Bool.and_true, Bool.true_and, Bool.and_self, Bool.or_true, Bool.true_or, Bool.false_and, Bool.and_false, Bool.false_or, Bool.or_false, Bool.not_false, Bool.not_true, if_true, if_false, ite_true, ite_false, z_up_eq, z_up_app, z_ro_eq, h, c1, kd, r0, q9, z_ur_19, z_kd_ut, cn, n1]
theorem t_text {E : Nat} (hE : 45 ≤ E) {S0 : ZG} {c : Int} {T : ZT} {G : ZG} (hS : y_S S0) (h : z_I S0 c T G) (hc : c < 600) : z_pwr S0 c T G (fun σ => z_call E 75 [vr 10] σ) (fun σ => z_call E 112 [vr 80] σ) := by
  obtain ⟨d, rfl⟩ : ∃ d, E = d + 1 := ⟨E - 1, by omega⟩
  have a5 := h.1.1.2.2.2.2.2.1
  have q5 := (dw_h h.1).2.2.2.1
  obtain ⟨t1, t2, t3⟩ := I_tape h
  by_cases c4 : G 81 5 < 4
  · have c4' : (G 81 5 < 4) = True := eq_true c4
    have c4n : (G 81 5 = 4) = False := eq_false (by omega)
    intro s
    generalize hL : G 80 4 = L at *
    have f1 := h.2.1
    have f10 := h.2.2.2.2.2.2.2.2.2.2.1
    have hS' : y_S G := by
      unfold y_S
      rw [f1 3 (by omega), f1 5 (by omega), f1 4 (by omega), f1 6 (by omega), f1 2 (by omega)]
      exact hS
    have hB : y_tp G (G 84) L := ⟨t1, fun k a b => ⟨(t3 k a b).1, (t3 k a b).2⟩⟩
    obtain ⟨N, W, X, tk, rd⟩ := p_read (T := T) (s := s) (E := d) (by omega) hS' hB f10.1
    have hK := n_K_hi tk.2.1
    have kv : ∀ j, 0 ≤ n_V (G 84) L j ∧ n_V (G 84) L j ≤ 10000 := fun j => by
      have pi := y_P_in (B := G 84) t1.1 j
      exact (y_kv_in ⟨pi.1, pi.2.1⟩ (fun k a b => (t3 k a b).1)).2
    have hu := u_tx (K := n_K (G 84) L) (V := n_V (G 84) L) kv 25 [] 0 (fun c hc => by cases hc)
    have mr := fun T' G1 s1 b1 b2 => p_mreadText (T := T') (G := G1) (s := s1) (B := G 84) (L := L) (E := d) (by omega) b1 b2 tk.1 hK
    generalize j_tx (n_K (G 84) L) (n_V (G 84) L) 25 [] 0 = y at *
    by_cases yz : y.1 = 0
    · obtain ⟨r, T1, G1, s1, e1, zz⟩ := rd.1 yz
      obtain ⟨⟨z1, z2, z3⟩, ⟨z4, z5, z6, z7⟩, ⟨z8, z9, z10, z11⟩, z12, z13, z14, z15, z16, z17⟩ := zz
      have g1 : ∀ a, a < T.2.2.1 → ¬ (56 ≤ a ∧ a ≤ 60) → G1 a = G a := fun a x y => by
        rw [z16 a x (by omega) (by omega) (by omega), z_up_ne _ _ (by omega), z_up_ne _ _ (by omega)]
      have n0 : (r = 0) = False := eq_false (by omega)
      have n9 : (r == 9) = false := beq_false_of_ne (by omega)
      have ad := p_addText (E := d) (by omega) T1 (z_up G1 10 (z_ro (G1 10) 9 0)) s1 (n := G 81 5) (r := r) (by rw [z_up_ne _ _ (by omega), g1 11 (by omega) (by omega)]; exact q5) (by omega) (by omega) z8
      have u11 : z_up G1 10 (z_ro (G1 10) 9 0) 11 = G1 11 := z_up_ne _ _ (by omega)
      rw [u11] at ad
      have ec : z_call (d + 1) 75 [vr 10] (z_Y T G s) = some (vi (iI (G 81 5)), z_Y (z_ut T1 19 (G 81 5).toNat r) (z_up (z_up G1 10 (z_ro (G1 10) 9 0)) 11 (z_ro (G1 11) 10 (G 81 5 + 1))) s1) := by
        rw [e_B_text]
        simp -implicitDefEqProofs (disch := first | assumption | omega | rfl | (simp only [z_up_eq, z_up_app, ↓reduceIte, Nat.reduceEqDiff]; omega)) only [z_lit0, z_lit1, z_lit2, z_litl, iI_add, iI_sub, iI_mul, iI_neg, iI_and, iI_or, iI_xor, iI_shl, iI_shr, iI_ushr, iI_div, iI_b, iI_c, iI_i2l, lI_l2i, lI_add, lI_sub, lI_mul, lI_neg, lI_div, lI_or, lI_and, lI_shl, lI_shr, nI_iI, lg_lt0, lg_gt0, lg_eq0, i_ne0', l_ne0', iI_lt, iI_le, iI_eq, lI_lt, lI_le, lI_eq, zb_0, zb_fit, zb_fit0, zb_fit1, i_one_zero, i_w_in, z_tb0, z_tb1, z_tb2, z_tb3, z_tb4, z_tb5, z_tb6, z_tb7, z_tb8, z_tbl, z_tu0, z_tu1, z_tu2, z_i_62, z_i_63, z_i_86, z_i_88, z_l_Y, z_ui_62, z_ui_63, z_ui_86, z_ui_88, z_ul_Y, z_sz_Y, z_sw_Y, iI_nat, z_ix_t, z_at, Int.add_zero, Int.sub_zero, Int.zero_add, Int.mul_zero, ne_eq, Bool.false_eq_true, Bool.true_eq_false, reduceCtorEq, eq_self, and_true, true_and, and_false, false_and, and_self, not_true_eq_false, not_false_eq_true, decide_true, decide_false, ↓reduceIte, Int.reduceEq, Int.reduceNe, Int.reduceLT, Int.reduceLE, Int.reduceAdd, Int.reduceSub, Int.reduceMul, Int.reduceNeg, Nat.reduceAdd, Nat.reduceEqDiff, Nat.reduceBEq, ↓z_x_eq, z_g_t, z_bI_s, z_bL_s, z_bR_s, z_bV_s, Int.cast_ofNat_Int, beq_self_eq_true, Bool.and_true, Bool.true_and, Bool.and_self, Bool.or_true, Bool.true_or, Bool.false_and, Bool.and_false, Bool.false_or, Bool.or_false, Bool.not_false, Bool.not_true, if_true, if_false, ite_true, ite_false, z_up_eq, z_up_app, z_ro_eq, q5, c4', t2, e1, n9, n0, ad]
      refine ⟨_, _, ec, ?_⟩
      generalize hG2 : z_up (z_up G1 10 (z_ro (G1 10) 9 0)) 11 (z_ro (G1 11) 10 (G 81 5 + 1)) = G2 at *
      generalize hT2 : z_ut T1 19 (G 81 5).toNat r = T2 at *
      have g2 : ∀ a, a < T.2.2.1 → ¬ (56 ≤ a ∧ a ≤ 60) → a ≠ 10 → a ≠ 11 → G2 a = G a := fun a x y z w => by
        rw [← hG2, z_up_ne _ _ w, z_up_ne _ _ z]; exact g1 a x y
      have g80 : G2 80 = G 80 := g2 80 (by omega) (by omega) (by omega) (by omega)
      have g81 : G2 81 = G 81 := g2 81 (by omega) (by omega) (by omega) (by omega)
      have g84 : G2 84 = G 84 := g2 84 (by omega) (by omega) (by omega) (by omega)
      have b1 : y_tm G2 (G 84) L := ⟨t1, by rw [g80]; exact hL, g84, fun k a b => (t3 k a b).1⟩
      obtain ⟨G3, s3, e3, nC⟩ := (mr T2 G2 s1 b1 (by rw [g81]; omega)).1 yz
      rw [g81] at nC
      obtain ⟨⟨m0, q1, q2, q3⟩, -, hc83, hcl, h24, hwj, hjN⟩ := nC
      have em : z_call (d + 1) 112 [vr 80] (z_Y T2 G2 s1) = some (vi (iI (G 81 5)), z_Y T2 (z_up (z_up G3 80 (z_ro (z_ro (z_ro (G3 80) 5 0) 6 (-1)) 4 0)) 81 (z_ro (G3 81) 5 (G 81 5 + 1))) s3) := by
        have k81 : G3 81 = G 81 := by rw [q3 81 (by omega) (by omega) (by omega), g81]
        have r5 : z_ro (z_ro (z_ro (G3 80) 5 0) 6 (-1)) 4 0 5 = 0 := by rw [z_ro_ne _ _ (by omega), z_ro_ne _ _ (by omega), z_ro_eq]
        have n1 : G 81 5 + 1 - 1 = G 81 5 := by omega
        rw [e_M_text]
        simp -implicitDefEqProofs (disch := first | assumption | omega | rfl | (simp only [z_up_eq, z_up_app, ↓reduceIte, Nat.reduceEqDiff]; omega)) only [z_lit0, z_lit1, z_lit2, z_litl, iI_add, iI_sub, iI_mul, iI_neg, iI_and, iI_or, iI_xor, iI_shl, iI_shr, iI_ushr, iI_div, iI_b, iI_c, iI_i2l, lI_l2i, lI_add, lI_sub, lI_mul, lI_neg, lI_div, lI_or, lI_and, lI_shl, lI_shr, nI_iI, lg_lt0, lg_gt0, lg_eq0, i_ne0', l_ne0', iI_lt, iI_le, iI_eq, lI_lt, lI_le, lI_eq, zb_0, zb_fit, zb_fit0, zb_fit1, i_one_zero, i_w_in, z_tb0, z_tb1, z_tb2, z_tb3, z_tb4, z_tb5, z_tb6, z_tb7, z_tb8, z_tbl, z_tu0, z_tu1, z_tu2, z_i_62, z_i_63, z_i_86, z_i_88, z_l_Y, z_ui_62, z_ui_63, z_ui_86, z_ui_88, z_ul_Y, z_sz_Y, z_sw_Y, iI_nat, z_ix_t, z_at, Int.add_zero, Int.sub_zero, Int.zero_add, Int.mul_zero, ne_eq, Bool.false_eq_true, Bool.true_eq_false, reduceCtorEq, eq_self, and_true, true_and, and_false, false_and, and_self, not_true_eq_false, not_false_eq_true, decide_true, decide_false, ↓reduceIte, Int.reduceEq, Int.reduceNe, Int.reduceLT, Int.reduceLE, Int.reduceAdd, Int.reduceSub, Int.reduceMul, Int.reduceNeg, Nat.reduceAdd, Nat.reduceEqDiff, Nat.reduceBEq, ↓z_x_eq, z_g_t, z_bI_s, z_bL_s, z_bR_s, z_bV_s, Int.cast_ofNat_Int, beq_self_eq_true, Bool.and_true, Bool.true_and, Bool.and_self, Bool.or_true, Bool.true_or, Bool.false_and, Bool.and_false, Bool.false_or, Bool.or_false, Bool.not_false, Bool.not_true, if_true, if_false, ite_true, ite_false, z_up_eq, z_up_app, z_ro_eq, g81, c4n, e3, z_up_up, k81, r5, n1]
      refine ⟨_, _, em, rfl, T2, _, s3, rfl, ?_, ?_⟩
      · have u80 : z_up (z_up G3 80 (z_ro (z_ro (z_ro (G3 80) 5 0) 6 (-1)) 4 0)) 81 (z_ro (G3 81) 5 (G 81 5 + 1)) 80 = z_ro (z_ro (z_ro (G3 80) 5 0) 6 (-1)) 4 0 := by rw [z_up_ne _ _ (by omega), z_up_eq]
        have u81 : z_up (z_up G3 80 (z_ro (z_ro (z_ro (G3 80) 5 0) 6 (-1)) 4 0)) 81 (z_ro (G3 81) 5 (G 81 5 + 1)) 81 = z_ro (G 81) 5 (G 81 5 + 1) := by rw [z_up_eq, q3 81 (by omega) (by omega) (by omega), g81]
        have uo : ∀ a, a ≠ 80 → a ≠ 81 → z_up (z_up G3 80 (z_ro (z_ro (z_ro (G3 80) 5 0) 6 (-1)) 4 0)) 81 (z_ro (G3 81) 5 (G 81 5 + 1)) a = G3 a := fun a x y => by rw [z_up_ne _ _ y, z_up_ne _ _ x]
        generalize z_up (z_up G3 80 (z_ro (z_ro (z_ro (G3 80) 5 0) 6 (-1)) 4 0)) 81 (z_ro (G3 81) 5 (G 81 5 + 1)) = G4 at *
        have v2 : ∀ a, a ≠ 80 → a ≠ 81 → a ≠ 83 → a ≠ 85 → G4 a = G2 a := fun a x y z w => by rw [uo a x y, q3 a x z w]
        have hiG : ∀ a, 98 ≤ a → G4 a = G1 a := fun a x => by
          rw [v2 a (by omega) (by omega) (by omega) (by omega), ← hG2, z_up_ne _ _ (by omega), z_up_ne _ _ (by omega)]
        have w1 : T2.1 = T1.1 := by rw [← hT2]; rfl
        have w2 : T2.2.2 = T1.2.2 := by rw [← hT2]; rfl
        have w3 : ∀ a k, a ≠ 19 → T2.2.1 a k = T1.2.1 a k := fun a k x => by rw [← hT2]; exact if_neg (fun z => x z.1)
        have w4 : T2.2.1 19 (G 81 5).toNat = r := by rw [← hT2]; exact if_pos ⟨rfl, rfl⟩
        have w5 : ∀ k, k ≠ (G 81 5).toNat → T2.2.1 19 k = T.2.1 19 k := fun k x => by
          rw [← z15 19 k (by omega) (by omega), ← hT2]; exact if_neg (fun z => x z.2)
        have r19 : z_rt T2 19 (G 81 5).toNat = r := w4
        have qw : ∀ D, ∀ (o : Option (List (Int × Int))), q_lw T1 G1 T.2.2.1 D o → q_lw T2 G4 T.2.2.1 D o := fun D o l => by
          cases o with
          | none => exact l
          | some C =>
            obtain ⟨l1, l2, l3, l4, l5⟩ := l
            refine ⟨l1, by rw [w2]; exact l2, by rw [w1]; exact l3, l4, fun k a => ?_⟩
            rw [hiG D (by omega)]; exact l5 k a
        have tn := t_new (T := T2) (G := G4) (cs := y.2.2) (r := r) (m := T.2.2.1) (t := G 81 5) hu a5.1 f10.1 z4 (by rw [w1]; exact z8) (by rw [w3 r 3 (by omega)]; exact z9) (by rw [w1]; exact z10) (by rw [hiG r (by omega)]; exact z11) (fun k a => by rw [hiG (r - 1) (by omega)]; exact z12 k a) (fun q a => by rw [w3 r q (by omega)]; exact qw _ _ (z13 q a)) (by rw [uo 83 (by omega) (by omega)]; exact hc83) (by rw [uo 83 (by omega) (by omega)]; exact hcl) (by have := tk.1; omega) h24
        refine I_tx h hc ⟨by rw [w2]; omega, by rw [w2]; omega, by rw [w2]; omega⟩ (fun a x => by rw [w1]; exact z14 a x) (fun a k x y z => by rw [w3 a k z]; exact z15 a k x y) (fun a x y z w v u p o => by rw [v2 a v u p o]; exact g2 a x y z w) ⟨?_, ?_, ?_⟩ ?_ (fun i x => ?_) (Or.inr ⟨?_, ?_, ?_, ?_, ?_, ?_⟩) ?_ (Or.inr ⟨?_, tn.1, by rw [r19]; exact tn.2, ?_, w5⟩)
        · rw [u80, z_ro_eq]
        · rw [u80, z_ro_ne _ _ (by omega), z_ro_ne _ _ (by omega), z_ro_ne _ _ (by omega), q2 24 (by omega), g80]
        · rw [u80, z_ro_ne _ _ (by omega), z_ro_ne _ _ (by omega), z_ro_ne _ _ (by omega), q2 25 (by omega), g80]
        · rw [v2 10 (by omega) (by omega) (by omega) (by omega), ← hG2, z_up_ne _ _ (by omega), z_up_eq, z_ro_eq]
        · rw [uo 83 (by omega) (by omega), q1 i (by omega), g2 83 (by omega) (by omega) (by omega) (by omega)]
        · rw [v2 56 (by omega) (by omega) (by omega) (by omega), ← hG2, z_up_ne _ _ (by omega), z_up_ne _ _ (by omega)]; exact z1
        · rw [v2 56 (by omega) (by omega) (by omega) (by omega), ← hG2, z_up_ne _ _ (by omega), z_up_ne _ _ (by omega), u80, z_ro_ne _ _ (by omega), z_ro_ne _ _ (by omega), z_ro_eq]; exact z2
        · rw [v2 56 (by omega) (by omega) (by omega) (by omega), ← hG2, z_up_ne _ _ (by omega), z_up_ne _ _ (by omega), u80, z_ro_ne _ _ (by omega), z_ro_eq]; exact z3
        · rw [u80, z_ro_ne _ _ (by omega), z_ro_ne _ _ (by omega), z_ro_eq]; exact ⟨by omega, by omega⟩
        · rw [u80, z_ro_ne _ _ (by omega), z_ro_eq]; omega
        · rw [u80, z_ro_ne _ _ (by omega), z_ro_eq]; omega
        · have D := D_tx (A := G 81) (G := G) h.1 (x := G 81 5 + 1) ⟨by omega, by omega, by have := h.1.1.2.2.2.2.2.2.1; omega⟩
          unfold c_now
          rw [u81]
          refine c_sd_eq (fun a x => ?_) D
          show G4 (11 + a) = z_up G 11 (z_ro (G 11) 10 (G 81 5 + 1)) (11 + a)
          rw [v2 (11 + a) (by omega) (by omega) (by omega) (by omega)]
          by_cases z : a = 0
          · subst z
            rw [z_up_eq, ← hG2, z_up_eq, g1 11 (by omega) (by omega)]
          · rw [z_up_ne _ _ (by omega)]; exact g2 (11 + a) (by omega) (by omega) (by omega) (by omega)
        · rw [u81, z_ro_eq]
        · rw [r19]
          have rt : ∀ k, z_rt T2 r k = T1.2.1 r k := fun k => by rw [z_rt_hi T2 k (by omega)]; exact w3 r k (by omega)
          have lq : ∀ q : Nat, q < 3 → T1.2.1 r q < T2.2.2.1 := fun q hq => by
            have l := z13 q hq
            rw [w2]
            cases z : j_fd (q : Int) y.2.2 with
            | none => rw [z] at l; have l' : T1.2.1 r q = 0 := l; omega
            | some C => rw [z] at l; exact l.2.1
          exact ⟨by rw [w2]; omega, by rw [rt]; exact lq 0 (by omega), by rw [rt]; exact lq 1 (by omega), by rw [rt]; exact lq 2 (by omega), by rw [rt, z9, w2]; omega⟩
      · rw [← hT2]
        exact z14 1 (by omega)
    · obtain ⟨T1, G1, s1, e1, zz⟩ := rd.2 yz
      obtain ⟨z1, z2, z3, ⟨z4, z5⟩, z6, z7, z8, z9⟩ := zz
      have g1 : ∀ a, a < T.2.2.1 → ¬ (56 ≤ a ∧ a ≤ 60) → G1 a = G a := fun a x y => by
        rw [z9 a x (by omega) (by omega) (by omega), z_up_ne _ _ (by omega), z_up_ne _ _ (by omega)]
      have ec : z_call (d + 1) 75 [vr 10] (z_Y T G s) = some (vi (iI (-1)), z_Y T1 (z_up G1 10 (z_ro (G1 10) 9 0)) s1) := by
        rw [e_B_text]
        simp -implicitDefEqProofs (disch := first | assumption | omega | rfl | (simp only [z_up_eq, z_up_app, ↓reduceIte, Nat.reduceEqDiff]; omega)) only [z_lit0, z_lit1, z_lit2, z_litl, iI_add, iI_sub, iI_mul, iI_neg, iI_and, iI_or, iI_xor, iI_shl, iI_shr, iI_ushr, iI_div, iI_b, iI_c, iI_i2l, lI_l2i, lI_add, lI_sub, lI_mul, lI_neg, lI_div, lI_or, lI_and, lI_shl, lI_shr, nI_iI, lg_lt0, lg_gt0, lg_eq0, i_ne0', l_ne0', iI_lt, iI_le, iI_eq, lI_lt, lI_le, lI_eq, zb_0, zb_fit, zb_fit0, zb_fit1, i_one_zero, i_w_in, z_tb0, z_tb1, z_tb2, z_tb3, z_tb4, z_tb5, z_tb6, z_tb7, z_tb8, z_tbl, z_tu0, z_tu1, z_tu2, z_i_62, z_i_63, z_i_86, z_i_88, z_l_Y, z_ui_62, z_ui_63, z_ui_86, z_ui_88, z_ul_Y, z_sz_Y, z_sw_Y, iI_nat, z_ix_t, z_at, Int.add_zero, Int.sub_zero, Int.zero_add, Int.mul_zero, ne_eq, Bool.false_eq_true, Bool.true_eq_false, reduceCtorEq, eq_self, and_true, true_and, and_false, false_and, and_self, not_true_eq_false, not_false_eq_true, decide_true, decide_false, ↓reduceIte, Int.reduceEq, Int.reduceNe, Int.reduceLT, Int.reduceLE, Int.reduceAdd, Int.reduceSub, Int.reduceMul, Int.reduceNeg, Nat.reduceAdd, Nat.reduceEqDiff, Nat.reduceBEq, ↓z_x_eq, z_g_t, z_bI_s, z_bL_s, z_bR_s, z_bV_s, Int.cast_ofNat_Int, beq_self_eq_true, Bool.and_true, Bool.true_and, Bool.and_self, Bool.or_true, Bool.true_or, Bool.false_and, Bool.and_false, Bool.false_or, Bool.or_false, Bool.not_false, Bool.not_true, if_true, if_false, ite_true, ite_false, z_up_eq, z_up_app, z_ro_eq, q5, c4', t2, e1]
      refine ⟨_, _, ec, ?_⟩
      generalize hG2 : z_up G1 10 (z_ro (G1 10) 9 0) = G2 at *
      have g2 : ∀ a, a < T.2.2.1 → ¬ (56 ≤ a ∧ a ≤ 60) → a ≠ 10 → G2 a = G a := fun a x y z => by
        rw [← hG2, z_up_ne _ _ z]; exact g1 a x y
      have g80 : G2 80 = G 80 := g2 80 (by omega) (by omega) (by omega)
      have g81 : G2 81 = G 81 := g2 81 (by omega) (by omega) (by omega)
      have g84 : G2 84 = G 84 := g2 84 (by omega) (by omega) (by omega)
      have b1 : y_tm G2 (G 84) L := ⟨t1, by rw [g80]; exact hL, g84, fun k a b => (t3 k a b).1⟩
      obtain ⟨y6, G3, s3, e3, nQ⟩ := (mr T1 G2 s1 b1 (by rw [g81]; omega)).2 yz
      rw [g81] at nQ
      obtain ⟨m0, q1, q2, q3⟩ := nQ
      have m8 := m0.1
      have pi := y_P_in (B := G 84) t1.1 y.2.1
      have yz' : (y.1 = 0) = False := eq_false yz
      have em : z_call (d + 1) 112 [vr 80] (z_Y T1 G2 s1) = some (vi (iI (-1)), z_Y T1 (z_up G3 80 (z_ro (z_ro (z_ro (G3 80) 5 y.1) 6 (y_P (G 84) L y.2.1)) 4 0)) s3) := by
        have r8 : z_ro (G3 80) 5 y.1 8 = y_P (G 84) L y.2.1 := by rw [z_ro_ne _ _ (by omega)]; exact m8
        have r5 : z_ro (z_ro (z_ro (G3 80) 5 y.1) 6 (y_P (G 84) L y.2.1)) 4 0 5 = y.1 := by rw [z_ro_ne _ _ (by omega), z_ro_ne _ _ (by omega), z_ro_eq]
        rw [e_M_text]
        simp -implicitDefEqProofs (disch := first | assumption | omega | rfl | (simp only [z_up_eq, z_up_app, ↓reduceIte, Nat.reduceEqDiff]; omega)) only [z_lit0, z_lit1, z_lit2, z_litl, iI_add, iI_sub, iI_mul, iI_neg, iI_and, iI_or, iI_xor, iI_shl, iI_shr, iI_ushr, iI_div, iI_b, iI_c, iI_i2l, lI_l2i, lI_add, lI_sub, lI_mul, lI_neg, lI_div, lI_or, lI_and, lI_shl, lI_shr, nI_iI, lg_lt0, lg_gt0, lg_eq0, i_ne0', l_ne0', iI_lt, iI_le, iI_eq, lI_lt, lI_le, lI_eq, zb_0, zb_fit, zb_fit0, zb_fit1, i_one_zero, i_w_in, z_tb0, z_tb1, z_tb2, z_tb3, z_tb4, z_tb5, z_tb6, z_tb7, z_tb8, z_tbl, z_tu0, z_tu1, z_tu2, z_i_62, z_i_63, z_i_86, z_i_88, z_l_Y, z_ui_62, z_ui_63, z_ui_86, z_ui_88, z_ul_Y, z_sz_Y, z_sw_Y, iI_nat, z_ix_t, z_at, Int.add_zero, Int.sub_zero, Int.zero_add, Int.mul_zero, ne_eq, Bool.false_eq_true, Bool.true_eq_false, reduceCtorEq, eq_self, and_true, true_and, and_false, false_and, and_self, not_true_eq_false, not_false_eq_true, decide_true, decide_false, ↓reduceIte, Int.reduceEq, Int.reduceNe, Int.reduceLT, Int.reduceLE, Int.reduceAdd, Int.reduceSub, Int.reduceMul, Int.reduceNeg, Nat.reduceAdd, Nat.reduceEqDiff, Nat.reduceBEq, ↓z_x_eq, z_g_t, z_bI_s, z_bL_s, z_bR_s, z_bV_s, Int.cast_ofNat_Int, beq_self_eq_true, Bool.and_true, Bool.true_and, Bool.and_self, Bool.or_true, Bool.true_or, Bool.false_and, Bool.and_false, Bool.false_or, Bool.or_false, Bool.not_false, Bool.not_true, if_true, if_false, ite_true, ite_false, z_up_eq, z_up_app, z_ro_eq, g81, c4n, e3, z_up_up, yz', r8, r5]
      refine ⟨_, _, em, rfl, T1, _, s3, rfl, ?_, z7 1 (by omega)⟩
      have u80 : z_up G3 80 (z_ro (z_ro (z_ro (G3 80) 5 y.1) 6 (y_P (G 84) L y.2.1)) 4 0) 80 = z_ro (z_ro (z_ro (G3 80) 5 y.1) 6 (y_P (G 84) L y.2.1)) 4 0 := z_up_eq _ _ _
      have uo : ∀ a, a ≠ 80 → z_up G3 80 (z_ro (z_ro (z_ro (G3 80) 5 y.1) 6 (y_P (G 84) L y.2.1)) 4 0) a = G3 a := fun a x => z_up_ne _ _ x
      generalize z_up G3 80 (z_ro (z_ro (z_ro (G3 80) 5 y.1) 6 (y_P (G 84) L y.2.1)) 4 0) = G4 at *
      have v2 : ∀ a, a ≠ 80 → a ≠ 83 → a ≠ 85 → G4 a = G2 a := fun a x z w => by rw [uo a x, q3 a x z w]
      refine I_tx h hc ⟨by omega, by omega, by omega⟩ z7 (fun a k x y z => z8 a k x y) (fun a x y z w v u p o => by rw [v2 a v p o]; exact g2 a x y z) ⟨?_, ?_, ?_⟩ ?_ (fun i x => ?_) (Or.inr ⟨?_, ?_, ?_, ?_, ?_, ?_⟩) ?_ (Or.inl ⟨?_, fun k => z8 19 k (by omega) (by omega)⟩)
      · rw [u80, z_ro_eq]
      · rw [u80, z_ro_ne _ _ (by omega), z_ro_ne _ _ (by omega), z_ro_ne _ _ (by omega), q2 24 (by omega), g80]
      · rw [u80, z_ro_ne _ _ (by omega), z_ro_ne _ _ (by omega), z_ro_ne _ _ (by omega), q2 25 (by omega), g80]
      · rw [v2 10 (by omega) (by omega) (by omega), ← hG2, z_up_eq, z_ro_eq]
      · rw [uo 83 (by omega), q1 i (by omega), g2 83 (by omega) (by omega) (by omega)]
      · rw [v2 56 (by omega) (by omega) (by omega), ← hG2, z_up_ne _ _ (by omega)]; exact z1
      · rw [v2 56 (by omega) (by omega) (by omega), ← hG2, z_up_ne _ _ (by omega), u80, z_ro_ne _ _ (by omega), z_ro_ne _ _ (by omega), z_ro_eq]; exact z2
      · rw [v2 56 (by omega) (by omega) (by omega), ← hG2, z_up_ne _ _ (by omega), u80, z_ro_ne _ _ (by omega), z_ro_eq]; exact z3
      · rw [u80, z_ro_ne _ _ (by omega), z_ro_ne _ _ (by omega), z_ro_eq]; exact y6
      · rw [u80, z_ro_ne _ _ (by omega), z_ro_eq]; omega
      · rw [u80, z_ro_ne _ _ (by omega), z_ro_eq]; omega
      · exact c_now_eq (fun a x y => by rw [v2 a (by omega) (by omega) (by omega)]; exact g2 a (by omega) (by omega) (by omega)) (by rw [v2 81 (by omega) (by omega) (by omega), g81]) h.1
      · rw [v2 81 (by omega) (by omega) (by omega), g81]
  · have c4' : (G 81 5 < 4) = False := eq_false c4
    have c4n : (G 81 5 = 4) = True := eq_true (by omega)
    refine pr_same (vi (iI (-1))) h hc (fun s => ?_) (fun s => ?_)
    · rw [e_B_text]
      simp -implicitDefEqProofs (disch := first | assumption | omega | rfl | (simp only [z_up_eq, z_up_app, ↓reduceIte, Nat.reduceEqDiff]; omega)) only [z_lit0, z_lit1, z_lit2, z_litl, iI_add, iI_sub, iI_mul, iI_neg, iI_and, iI_or, iI_xor, iI_shl, iI_shr, iI_ushr, iI_div, iI_b, iI_c, iI_i2l, lI_l2i, lI_add, lI_sub, lI_mul, lI_neg, lI_div, lI_or, lI_and, lI_shl, lI_shr, nI_iI, lg_lt0, lg_gt0, lg_eq0, i_ne0', l_ne0', iI_lt, iI_le, iI_eq, lI_lt, lI_le, lI_eq, zb_0, zb_fit, zb_fit0, zb_fit1, i_one_zero, i_w_in, z_tb0, z_tb1, z_tb2, z_tb3, z_tb4, z_tb5, z_tb6, z_tb7, z_tb8, z_tbl, z_tu0, z_tu1, z_tu2, z_i_62, z_i_63, z_i_86, z_i_88, z_l_Y, z_ui_62, z_ui_63, z_ui_86, z_ui_88, z_ul_Y, z_sz_Y, z_sw_Y, iI_nat, z_ix_t, z_at, Int.add_zero, Int.sub_zero, Int.zero_add, Int.mul_zero, ne_eq, Bool.false_eq_true, Bool.true_eq_false, reduceCtorEq, eq_self, and_true, true_and, and_false, false_and, and_self, not_true_eq_false, not_false_eq_true, decide_true, decide_false, ↓reduceIte, Int.reduceEq, Int.reduceNe, Int.reduceLT, Int.reduceLE, Int.reduceAdd, Int.reduceSub, Int.reduceMul, Int.reduceNeg, Nat.reduceAdd, Nat.reduceEqDiff, Nat.reduceBEq, ↓z_x_eq, z_g_t, z_bI_s, z_bL_s, z_bR_s, z_bV_s, Int.cast_ofNat_Int, beq_self_eq_true, Bool.and_true, Bool.true_and, Bool.and_self, Bool.or_true, Bool.true_or, Bool.false_and, Bool.and_false, Bool.false_or, Bool.or_false, Bool.not_false, Bool.not_true, if_true, if_false, ite_true, ite_false, z_up_eq, z_up_app, z_ro_eq, q5, c4']
      exact ok_q
    · rw [e_M_text]
      simp -implicitDefEqProofs (disch := first | assumption | omega | rfl | (simp only [z_up_eq, z_up_app, ↓reduceIte, Nat.reduceEqDiff]; omega)) only [z_lit0, z_lit1, z_lit2, z_litl, iI_add, iI_sub, iI_mul, iI_neg, iI_and, iI_or, iI_xor, iI_shl, iI_shr, iI_ushr, iI_div, iI_b, iI_c, iI_i2l, lI_l2i, lI_add, lI_sub, lI_mul, lI_neg, lI_div, lI_or, lI_and, lI_shl, lI_shr, nI_iI, lg_lt0, lg_gt0, lg_eq0, i_ne0', l_ne0', iI_lt, iI_le, iI_eq, lI_lt, lI_le, lI_eq, zb_0, zb_fit, zb_fit0, zb_fit1, i_one_zero, i_w_in, z_tb0, z_tb1, z_tb2, z_tb3, z_tb4, z_tb5, z_tb6, z_tb7, z_tb8, z_tbl, z_tu0, z_tu1, z_tu2, z_i_62, z_i_63, z_i_86, z_i_88, z_l_Y, z_ui_62, z_ui_63, z_ui_86, z_ui_88, z_ul_Y, z_sz_Y, z_sw_Y, iI_nat, z_ix_t, z_at, Int.add_zero, Int.sub_zero, Int.zero_add, Int.mul_zero, ne_eq, Bool.false_eq_true, Bool.true_eq_false, reduceCtorEq, eq_self, and_true, true_and, and_false, false_and, and_self, not_true_eq_false, not_false_eq_true, decide_true, decide_false, ↓reduceIte, Int.reduceEq, Int.reduceNe, Int.reduceLT, Int.reduceLE, Int.reduceAdd, Int.reduceSub, Int.reduceMul, Int.reduceNeg, Nat.reduceAdd, Nat.reduceEqDiff, Nat.reduceBEq, ↓z_x_eq, z_g_t, z_bI_s, z_bL_s, z_bR_s, z_bV_s, Int.cast_ofNat_Int, beq_self_eq_true, Bool.and_true, Bool.true_and, Bool.and_self, Bool.or_true, Bool.true_or, Bool.false_and, Bool.and_false, Bool.false_or, Bool.or_false, Bool.not_false, Bool.not_true, if_true, if_false, ite_true, ite_false, z_up_eq, z_up_app, z_ro_eq, c4n]
      exact ok_q

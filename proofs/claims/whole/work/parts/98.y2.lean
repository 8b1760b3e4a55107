/-! THE PURE PART, 101: both read a text -/
theorem y_kv_in {B : Int → Int} {L p : Int} (hp : 0 ≤ p ∧ p ≤ L) (hb : ∀ k, 0 ≤ k → k < L → 0 ≤ B k ∧ B k ≤ 255) : (0 ≤ y_kd B L p ∧ y_kd B L p ≤ 44) ∧ 0 ≤ y_vl B L p ∧ y_vl B L p ≤ 10000 := by
  have m : y_mt (fun k => if k = 8 then p else if k = 7 then (if p < L then y_end B L p else L) else if k = 9 then y_mk B L p else y_mn B (y_end B L p - p).toNat p 0) (y_pk (y_sl B (y_end B L p - p).toNat p) 0) B L p := ⟨rfl, rfl, rfl, fun _ _ => rfl, fun _ _ => rfl⟩
  have rl := y_rel m hp hb
  refine ⟨rl.1, ?_⟩
  by_cases k2 : y_kd B L p = 2
  · have := rl.2.2.1 k2
    omega
  · have z : y_vl B L p = 0 := by
      unfold y_vl
      by_cases c : p < L
      · rw [if_pos c]
        by_cases q : y_dig (B p) = true
        · exact absurd ((if_pos c).trans (if_pos q)) k2
        · rw [if_neg q]
      · rw [if_neg c]
    omega
theorem y_P_hi {B : Int → Int} {L : Int} {N : Nat} (h : y_P B L N = L) : ∀ j : Nat, N ≤ j → y_P B L j = L := by
  have q : ∀ i : Nat, y_P B L (N + i) = L := fun i => by
    induction i with
    | zero => exact h
    | succ i ih =>
      show (if y_P B L (N + i) < L then _ else y_P B L (N + i)) = L
      rw [ih, if_neg (by omega)]
  intro j hj
  have := q (j - N)
  rwa [show N + (j - N) = j by omega] at this
theorem n_K_hi {B : Int → Int} {L : Int} {N : Nat} (h : y_P B L N = L) : ∀ j : Nat, N ≤ j → n_K B L j = 0 := fun j hj => by
  show y_kd B L (y_P B L j) = 0
  rw [y_P_hi h j hj]
  exact if_neg (by omega)
section
variable {T : ZT} {G : ZG} {s : ZG × ZG} {B : Int → Int} {L : Int}
theorem p_read {E : Nat} (hE : 40 ≤ E) (hS : y_S G) (hB : y_tp G B L) (h98 : 98 ≤ T.2.2.1) : ∃ N W X, y_tk B L N W X ∧ ((j_tx (n_K B L) (n_V B L) 25 [] 0).1 = 0 → ∃ r T' G' s', z_call E 73 [vr 56, vr 55, vi (iI L)] (z_Y T G s) = some (vr r, z_Y T' G' s') ∧ q_Z T (z_up (z_up G 57 W) 58 X) (j_tx (n_K B L) (n_V B L) 25 [] 0).2.2 r T' G') ∧ ((j_tx (n_K B L) (n_V B L) 25 [] 0).1 ≠ 0 → ∃ T' G' s', z_call E 73 [vr 56, vr 55, vi (iI L)] (z_Y T G s) = some (vr 0, z_Y T' G' s') ∧ q_X T (z_up (z_up G 57 W) 58 X) (j_tx (n_K B L) (n_V B L) 25 [] 0).1 (y_P B L (j_tx (n_K B L) (n_V B L) 25 [] 0).2.1) T' G') := by
  obtain ⟨d, rfl⟩ : ∃ d, E = d + 8 := ⟨E - 8, by omega⟩
  have hL := hB.1
  have hS' : y_S (z_up G 56 (z_ro (z_ro (z_ro (z_ro (G 56) 12 0) 13 1) 14 0) 15 (-1))) := by
    unfold y_S
    rw [z_up_ne _ _ (show 3 ≠ 56 by omega), z_up_ne _ _ (show 5 ≠ 56 by omega), z_up_ne _ _ (show 4 ≠ 56 by omega), z_up_ne _ _ (show 6 ≠ 56 by omega), z_up_ne _ _ (show 2 ≠ 56 by omega)]
    exact hS
  have hB' : y_tp (z_up G 56 (z_ro (z_ro (z_ro (z_ro (G 56) 12 0) 13 1) 14 0) 15 (-1))) B L := by
    unfold y_tp
    rw [z_up_ne _ _ (show 55 ≠ 56 by omega)]
    exact hB
  obtain ⟨N, W, X, e1, tk⟩ := p_scan d (z_ut (z_ut (z_ut T 56 8 0) 56 9 0) 56 10 0) (z_up G 56 (z_ro (z_ro (z_ro (z_ro (G 56) 12 0) 13 1) 14 0) 15 (-1))) s hS' hB'
  refine ⟨N, W, X, tk, ?_⟩
  obtain ⟨t1, t2, t3, t4, t5⟩ := tk
  have hb : ∀ k, 0 ≤ k → k < L → 0 ≤ B k ∧ B k ≤ 255 := fun k a b => (hB.2 k a b).1
  have kv : ∀ j, (0 ≤ n_K B L j ∧ n_K B L j ≤ 44) ∧ 0 ≤ n_V B L j ∧ n_V B L j ≤ 10000 := fun j => by
    have pi := y_P_in (B := B) hL.1 j
    exact y_kv_in ⟨pi.1, pi.2.1⟩ hb
  have w57 : ∀ j : Nat, j ≤ N → i_and (W j) 63 = n_K B L j ∧ i_shr (W j) 6 = n_V B L j ∧ X j = y_P B L j := fun j hj => by
    by_cases c : j < N
    · obtain ⟨a1, a2, a3⟩ := t5 j c
      have pi := y_P_in (B := B) hL.1 j
      have kv := y_tok_kv (B := B) (L := L) (p := y_P B L j) ⟨pi.1, a1⟩ hb
      rw [a2, a3]
      exact ⟨kv.1, kv.2, rfl⟩
    · have ej : j = N := by omega
      subst ej
      have k0 : n_K B L j = 0 := n_K_hi t2 j (Nat.le_refl _)
      have v0 : n_V B L j = 0 := by
        show y_vl B L (y_P B L j) = 0
        rw [t2]; exact if_neg (by omega)
      rw [t3, t4, k0, v0, t2]
      exact ⟨by decide +kernel, by decide +kernel, rfl⟩
  have tk' : q_tk (z_up (z_up G 57 W) 58 X) (n_K B L) (n_V B L) (fun j => y_P B L j) N := by
    refine ⟨t1, n_K_hi t2, fun j hj => ?_, kv⟩
    rw [z_up_eq, z_up_ne _ _ (show 57 ≠ 58 by omega), z_up_eq]
    exact w57 j hj
  have hS2 : ∀ j : Int, 0 ≤ j → j < 90 → z_up (z_up G 57 W) 58 X 2 j = y_fm.getD j.toNat 0 := fun j a b => by
    rw [z_up_ne _ _ (show 2 ≠ 58 by omega), z_up_ne _ _ (show 2 ≠ 57 by omega)]
    exact hS.2.2.2.2 j a b
  have go := p_goTo (E := d + 7) (by omega) (z_ut (z_ut (z_ut T 56 8 0) 56 9 0) 56 10 0) (z_up (z_up (z_up G 56 (z_ro (z_ro (z_ro (z_ro (G 56) 12 0) 13 1) 14 0) 15 (-1))) 57 W) 58 X) s (j := 0) (by omega)
  have u57 : z_up (z_up (z_up G 56 (z_ro (z_ro (z_ro (z_ro (G 56) 12 0) 13 1) 14 0) 15 (-1))) 57 W) 58 X 57 = W := by rw [z_up_ne _ _ (show 57 ≠ 58 by omega), z_up_eq]
  have u56 : z_up (z_up (z_up G 56 (z_ro (z_ro (z_ro (z_ro (G 56) 12 0) 13 1) 14 0) 15 (-1))) 57 W) 58 X 56 = z_ro (z_ro (z_ro (z_ro (G 56) 12 0) 13 1) 14 0) 15 (-1) := by rw [z_up_ne _ _ (show 56 ≠ 58 by omega), z_up_ne _ _ (show 56 ≠ 57 by omega), z_up_eq]
  have w0 := w57 0 (Nat.zero_le _)
  rw [show ((0 : Nat) : Int) = 0 from rfl] at w0
  rw [u57, u56, w0.1, w0.2.1] at go
  generalize hG2 : z_up (z_up (z_up (z_up G 56 (z_ro (z_ro (z_ro (z_ro (G 56) 12 0) 13 1) 14 0) 15 (-1))) 57 W) 58 X) 56 (z_ro (z_ro (z_ro (z_ro (z_ro (z_ro (z_ro (G 56) 12 0) 13 1) 14 0) 15 (-1)) 2 0) 3 (n_K B L 0)) 4 (n_V B L 0)) = G2 at *
  have mn := p_min (d + 6) (a := L) (b := 300) (z_Y (z_ut (z_ut (z_ut T 56 8 0) 56 9 0) 56 10 0) (z_up G 56 (z_ro (z_ro (z_ro (z_ro (G 56) 12 0) 13 1) 14 0) 15 (-1))) s) ⟨⟨by omega, by omega⟩, ⟨by omega, by omega⟩⟩
  rw [show min L 300 = L by omega] at mn
  have g56 : G2 56 = z_ro (z_ro (z_ro (z_ro (z_ro (z_ro (z_ro (G 56) 12 0) 13 1) 14 0) 15 (-1)) 2 0) 3 (n_K B L 0)) 4 (n_V B L 0) := by rw [← hG2, z_up_eq]
  have hC : q_C T (z_up (z_up G 57 W) 58 X) (n_K B L) (n_V B L) N [] 0 (z_ut (z_ut (z_ut T 56 8 0) 56 9 0) 56 10 0) G2 := by
    refine ⟨?_, fun k a => absurd a (Nat.not_lt_zero _), fun q hq => ?_, ⟨⟨Nat.le_refl _, Nat.le_add_right _ _⟩, Nat.le_add_right _ _, fun r a => rfl, fun r k a b => ?_, fun r a b c e => ?_⟩, Nat.zero_le _, Nat.zero_le _⟩
    · rw [g56]
      refine ⟨?_, ?_, ?_, ?_, ?_, ?_, ?_⟩
      · rw [z_ro_ne _ _ (by omega), z_ro_ne _ _ (by omega), z_ro_eq]; rfl
      · rw [z_ro_ne _ _ (by omega), z_ro_eq]
      · rw [z_ro_eq]
      · rw [z_ro_ne _ _ (by omega), z_ro_ne _ _ (by omega), z_ro_ne _ _ (by omega), z_ro_ne _ _ (by omega), z_ro_ne _ _ (by omega), z_ro_ne _ _ (by omega), z_ro_eq]; rfl
      · rw [z_ro_ne _ _ (by omega), z_ro_ne _ _ (by omega), z_ro_ne _ _ (by omega), z_ro_ne _ _ (by omega), z_ro_ne _ _ (by omega), z_ro_eq]
      · rw [z_ro_ne _ _ (by omega), z_ro_ne _ _ (by omega), z_ro_ne _ _ (by omega), z_ro_ne _ _ (by omega), z_ro_eq]
      · rw [z_ro_ne _ _ (by omega), z_ro_ne _ _ (by omega), z_ro_ne _ _ (by omega), z_ro_eq]
    · rcases (show q = 0 ∨ q = 1 ∨ q = 2 by omega) with rfl | rfl | rfl <;> rfl
    · show (if r = 56 ∧ k = 10 then 0 else if r = 56 ∧ k = 9 then 0 else if r = 56 ∧ k = 8 then 0 else T.2.1 r k) = T.2.1 r k
      rw [if_neg (fun z => b z.1), if_neg (fun z => b z.1), if_neg (fun z => b z.1)]
    · rw [← hG2, z_up_ne _ _ b]
      unfold z_up
      by_cases c1 : r = 58
      · rw [if_pos c1, if_pos c1]
      · rw [if_neg c1, if_neg c1]
        by_cases c2 : r = 57
        · rw [if_pos c2, if_pos c2]
        · rw [if_neg c2, if_neg c2, if_neg b]
  have rd := p_read_54 (E := d + 7) (by omega) tk' hS2 h98 25 [] 0 _ G2 s rfl hC
  have em : z_call (d + 7 + 1) 73 [vr 56, vr 55, vi (iI L)] (z_Y T G s) = z_w d_Re_read (z_call (d + 7)) 54 [some (vr 56), none, none, some (vi (iI (([] : List UC).length : Int)))] [] (z_Y (z_ut (z_ut (z_ut T 56 8 0) 56 9 0) 56 10 0) G2 s) := by
    rw [e_Re_read]
    have u8 : ∀ (T : ZT) G s, z_ur (z_Y T G s) 56 8 0 = z_Y (z_ut T 56 8 0) G s := fun T G s => z_ur_Y T G s 0 (fun _ => rfl)
    have u9 : ∀ (T : ZT) G s, z_ur (z_Y T G s) 56 9 0 = z_Y (z_ut T 56 9 0) G s := fun T G s => z_ur_Y T G s 0 (fun _ => rfl)
    have u10 : ∀ (T : ZT) G s, z_ur (z_Y T G s) 56 10 0 = z_Y (z_ut T 56 10 0) G s := fun T G s => z_ur_Y T G s 0 (fun _ => rfl)
    simp -implicitDefEqProofs (disch := first | assumption | omega | rfl | (simp only [z_up_eq, z_up_app, ↓reduceIte, Nat.reduceEqDiff]; omega)) only [z_lit0, z_lit1, z_lit2, z_litl, iI_add, iI_sub, iI_mul, iI_neg, iI_and, iI_or, iI_xor, iI_shl, iI_shr, iI_ushr, iI_div, iI_b, iI_c, iI_i2l, lI_l2i, lI_add, lI_sub, lI_mul, lI_neg, lI_div, lI_or, lI_and, lI_shl, lI_shr, nI_iI, lg_lt0, lg_gt0, lg_eq0, i_ne0', l_ne0', iI_lt, iI_le, iI_eq, lI_lt, lI_le, lI_eq, zb_0, zb_fit, zb_fit0, zb_fit1, i_one_zero, i_w_in, z_tb0, z_tb1, z_tb2, z_tb3, z_tb4, z_tb5, z_tb6, z_tb7, z_tb8, z_tbl, z_tu0, z_tu1, z_tu2, z_i_62, z_i_63, z_i_86, z_i_88, z_l_Y, z_ui_62, z_ui_63, z_ui_86, z_ui_88, z_ul_Y, z_sz_Y, z_sw_Y, iI_nat, z_ix_t, z_at, Int.add_zero, Int.sub_zero, Int.zero_add, Int.mul_zero, ne_eq, Bool.false_eq_true, Bool.true_eq_false, reduceCtorEq, eq_self, and_true, true_and, and_false, false_and, and_self, not_true_eq_false, not_false_eq_true, decide_true, decide_false, ↓reduceIte, Int.reduceEq, Int.reduceNe, Int.reduceLT, Int.reduceLE, Int.reduceAdd, Int.reduceSub, Int.reduceMul, Int.reduceNeg, Nat.reduceAdd, Nat.reduceEqDiff, Nat.reduceBEq, ↓z_x_eq, z_g_t, z_bI_s, z_bL_s, z_bR_s, z_bV_s, Int.cast_ofNat_Int, beq_self_eq_true, Bool.and_true, Bool.true_and, Bool.and_self, Bool.or_true, Bool.true_or, Bool.false_and, Bool.and_false, Bool.false_or, Bool.or_false, Bool.not_false, Bool.not_true, if_true, if_false, ite_true, ite_false, z_up_eq, z_up_app, z_ro_eq, u8, u9, u10, z_up_up, mn, e1, go]
    rfl
  rw [show d + 8 = d + 7 + 1 from rfl, em]
  exact rd
end
section
variable {T : ZT} {G Gb : ZG} {s : ZG × ZG} {B : Int → Int} {L t0 : Int} {N : Nat}
theorem p_mread_43 {E : Nat} (hE : 14 ≤ E) (hB : y_tm Gb B L) (ht : 0 ≤ t0 ∧ t0 ≤ 2115) (hN : N ≤ 300) (hK : ∀ j, N ≤ j → n_K B L j = 0) : ∀ (m : Nat) (cs : List UC) (j : Nat) (G : ZG) (s : ZG × ZG), m + cs.length = 25 → n_C B L t0 Gb N cs j G (s.2 80 11) → ((j_tx (n_K B L) (n_V B L) m cs j).1 = 0 → ∃ G' s', z_w d_M_readText (z_call E) 43 [some (vr 80), none] [] (z_Y T G s) = some (vi (iI 0), z_Y T G' s') ∧ n_C B L t0 Gb N (j_tx (n_K B L) (n_V B L) m cs j).2.2 (j_tx (n_K B L) (n_V B L) m cs j).2.1 G' (s'.2 80 11)) ∧ ((j_tx (n_K B L) (n_V B L) m cs j).1 ≠ 0 → (0 ≤ (j_tx (n_K B L) (n_V B L) m cs j).1 ∧ (j_tx (n_K B L) (n_V B L) m cs j).1 ≤ 6) ∧ ∃ G' s', z_w d_M_readText (z_call E) 43 [some (vr 80), none] [] (z_Y T G s) = some (vi (iI (j_tx (n_K B L) (n_V B L) m cs j).1), z_Y T G' s') ∧ n_Q B L t0 Gb (j_tx (n_K B L) (n_V B L) m cs j).2.1 G' (s'.2 80 11))
  | 0, cs, j, G, s, hm, h => by have := h.2.2.2.2.1; omega
  | m + 1, cs, j, G, s, hm, h => by
    have rl := n_Q_rl hB h.1
    have tk := n_tok rl
    have t0' := tk.2.2.1
    have tb := tk.1
    unfold j_tx
    by_cases k0 : n_K B L j = 0
    · rw [if_pos k0]
      have k0' : (n_K B L j = 0) = True := eq_true k0
      rw [k0'] at t0'
      refine ⟨fun _ => ⟨G, s, ?_, h⟩, fun z => absurd rfl z⟩
      rw [e_M_readText_43]
      simp -implicitDefEqProofs (disch := first | assumption | omega | rfl | (simp only [z_up_eq, z_up_app, ↓reduceIte, Nat.reduceEqDiff]; omega)) only [z_lit0, z_lit1, z_lit2, z_litl, iI_add, iI_sub, iI_mul, iI_neg, iI_and, iI_or, iI_xor, iI_shl, iI_shr, iI_ushr, iI_div, iI_b, iI_c, iI_i2l, lI_l2i, lI_add, lI_sub, lI_mul, lI_neg, lI_div, lI_or, lI_and, lI_shl, lI_shr, nI_iI, lg_lt0, lg_gt0, lg_eq0, i_ne0', l_ne0', iI_lt, iI_le, iI_eq, lI_lt, lI_le, lI_eq, zb_0, zb_fit, zb_fit0, zb_fit1, i_one_zero, i_w_in, z_tb0, z_tb1, z_tb2, z_tb3, z_tb4, z_tb5, z_tb6, z_tb7, z_tb8, z_tbl, z_tu0, z_tu1, z_tu2, z_i_62, z_i_63, z_i_86, z_i_88, z_l_Y, z_ui_62, z_ui_63, z_ui_86, z_ui_88, z_ul_Y, z_sz_Y, z_sw_Y, iI_nat, z_ix_t, z_at, Int.add_zero, Int.sub_zero, Int.zero_add, Int.mul_zero, ne_eq, Bool.false_eq_true, Bool.true_eq_false, reduceCtorEq, eq_self, and_true, true_and, and_false, false_and, and_self, not_true_eq_false, not_false_eq_true, decide_true, decide_false, ↓reduceIte, Int.reduceEq, Int.reduceNe, Int.reduceLT, Int.reduceLE, Int.reduceAdd, Int.reduceSub, Int.reduceMul, Int.reduceNeg, Nat.reduceAdd, Nat.reduceEqDiff, Nat.reduceBEq, ↓z_x_eq, z_g_t, z_bI_s, z_bL_s, z_bR_s, z_bV_s, Int.cast_ofNat_Int, beq_self_eq_true, Bool.and_true, Bool.true_and, Bool.and_self, Bool.or_true, Bool.true_or, Bool.false_and, Bool.and_false, Bool.false_or, Bool.or_false, Bool.not_false, Bool.not_true, if_true, if_false, ite_true, ite_false, z_up_eq, z_up_app, z_ro_eq, t0']
    · rw [if_neg k0]
      have k0' : (n_K B L j = 0) = False := eq_false k0
      rw [k0'] at t0'
      have cl := p_mclause (T := T) (s := s) (G := G) (E := E) hE hB ht hN hK h k0
      generalize j_clz (n_K B L) (n_V B L) cs j = y at *
      by_cases yz : y.1 = 0
      · rw [if_pos yz]
        obtain ⟨G1, s1, e1, h1⟩ := cl.1 yz
        have ih := p_mread_43 hE hB ht hN hK m (cs ++ [y.2.2]) y.2.1 G1 s1 (by rw [List.length_append, List.length_singleton]; omega) h1
        have em : z_w d_M_readText (z_call E) 43 [some (vr 80), none] [] (z_Y T G s) = z_w d_M_readText (z_call E) 43 [some (vr 80), none] [] (z_Y T G1 s1) := by
          rw [e_M_readText_43 (z_call E) 80 (z_Y T G s)]
          simp -implicitDefEqProofs (disch := first | assumption | omega | rfl | (simp only [z_up_eq, z_up_app, ↓reduceIte, Nat.reduceEqDiff]; omega)) only [z_lit0, z_lit1, z_lit2, z_litl, iI_add, iI_sub, iI_mul, iI_neg, iI_and, iI_or, iI_xor, iI_shl, iI_shr, iI_ushr, iI_div, iI_b, iI_c, iI_i2l, lI_l2i, lI_add, lI_sub, lI_mul, lI_neg, lI_div, lI_or, lI_and, lI_shl, lI_shr, nI_iI, lg_lt0, lg_gt0, lg_eq0, i_ne0', l_ne0', iI_lt, iI_le, iI_eq, lI_lt, lI_le, lI_eq, zb_0, zb_fit, zb_fit0, zb_fit1, i_one_zero, i_w_in, z_tb0, z_tb1, z_tb2, z_tb3, z_tb4, z_tb5, z_tb6, z_tb7, z_tb8, z_tbl, z_tu0, z_tu1, z_tu2, z_i_62, z_i_63, z_i_86, z_i_88, z_l_Y, z_ui_62, z_ui_63, z_ui_86, z_ui_88, z_ul_Y, z_sz_Y, z_sw_Y, iI_nat, z_ix_t, z_at, Int.add_zero, Int.sub_zero, Int.zero_add, Int.mul_zero, ne_eq, Bool.false_eq_true, Bool.true_eq_false, reduceCtorEq, eq_self, and_true, true_and, and_false, false_and, and_self, not_true_eq_false, not_false_eq_true, decide_true, decide_false, ↓reduceIte, Int.reduceEq, Int.reduceNe, Int.reduceLT, Int.reduceLE, Int.reduceAdd, Int.reduceSub, Int.reduceMul, Int.reduceNeg, Nat.reduceAdd, Nat.reduceEqDiff, Nat.reduceBEq, ↓z_x_eq, z_g_t, z_bI_s, z_bL_s, z_bR_s, z_bV_s, Int.cast_ofNat_Int, beq_self_eq_true, Bool.and_true, Bool.true_and, Bool.and_self, Bool.or_true, Bool.true_or, Bool.false_and, Bool.and_false, Bool.false_or, Bool.or_false, Bool.not_false, Bool.not_true, if_true, if_false, ite_true, ite_false, z_up_eq, z_up_app, z_ro_eq, t0', e1]
        rw [em]; exact ih
      · rw [if_neg yz]
        obtain ⟨y6, yN, G1, s1, e1, h1⟩ := cl.2 yz
        have yz' : (y.1 = 0) = False := eq_false yz
        refine ⟨fun z => absurd z yz, fun _ => ⟨y6, G1, s1, ?_, h1⟩⟩
        rw [e_M_readText_43]
        simp -implicitDefEqProofs (disch := first | assumption | omega | rfl | (simp only [z_up_eq, z_up_app, ↓reduceIte, Nat.reduceEqDiff]; omega)) only [z_lit0, z_lit1, z_lit2, z_litl, iI_add, iI_sub, iI_mul, iI_neg, iI_and, iI_or, iI_xor, iI_shl, iI_shr, iI_ushr, iI_div, iI_b, iI_c, iI_i2l, lI_l2i, lI_add, lI_sub, lI_mul, lI_neg, lI_div, lI_or, lI_and, lI_shl, lI_shr, nI_iI, lg_lt0, lg_gt0, lg_eq0, i_ne0', l_ne0', iI_lt, iI_le, iI_eq, lI_lt, lI_le, lI_eq, zb_0, zb_fit, zb_fit0, zb_fit1, i_one_zero, i_w_in, z_tb0, z_tb1, z_tb2, z_tb3, z_tb4, z_tb5, z_tb6, z_tb7, z_tb8, z_tbl, z_tu0, z_tu1, z_tu2, z_i_62, z_i_63, z_i_86, z_i_88, z_l_Y, z_ui_62, z_ui_63, z_ui_86, z_ui_88, z_ul_Y, z_sz_Y, z_sw_Y, iI_nat, z_ix_t, z_at, Int.add_zero, Int.sub_zero, Int.zero_add, Int.mul_zero, ne_eq, Bool.false_eq_true, Bool.true_eq_false, reduceCtorEq, eq_self, and_true, true_and, and_false, false_and, and_self, not_true_eq_false, not_false_eq_true, decide_true, decide_false, ↓reduceIte, Int.reduceEq, Int.reduceNe, Int.reduceLT, Int.reduceLE, Int.reduceAdd, Int.reduceSub, Int.reduceMul, Int.reduceNeg, Nat.reduceAdd, Nat.reduceEqDiff, Nat.reduceBEq, ↓z_x_eq, z_g_t, z_bI_s, z_bL_s, z_bR_s, z_bV_s, Int.cast_ofNat_Int, beq_self_eq_true, Bool.and_true, Bool.true_and, Bool.and_self, Bool.or_true, Bool.true_or, Bool.false_and, Bool.and_false, Bool.false_or, Bool.or_false, Bool.not_false, Bool.not_true, if_true, if_false, ite_true, ite_false, z_up_eq, z_up_app, z_ro_eq, t0', e1, yz']
theorem p_next0 (d : Nat) (T : ZT) (G : ZG) (s : ZG × ZG) (hB : y_tm G B L) (h7 : G 80 7 = 0) : ∃ R' s', z_call (d + 2) 80 [vr 80] (z_Y T G s) = some (vi (iI 0), z_Y T (z_up G 80 R') s') ∧ y_mt R' (s'.2 80 11) B L (y_P B L 0) ∧ ∀ k, ¬ (7 ≤ k ∧ k ≤ 10) → R' k = G 80 k := by
  have hL := hB.1
  rw [nt_0]
  have q := p_nt d T G s (B := B) (L := L) L.toNat 0 (G 80) (by rw [z_up_id]; exact hB) (by omega) hL.1 (by omega) h7
  rw [z_up_id] at q
  exact q
theorem p_mreadText {E : Nat} (hE : 16 ≤ E) (hB : y_tm G B L) (h5 : 0 ≤ G 81 5 ∧ G 81 5 ≤ 3) (hN : N ≤ 300) (hK : ∀ j, N ≤ j → n_K B L j = 0) : ((j_tx (n_K B L) (n_V B L) 25 [] 0).1 = 0 → ∃ G' s', z_call E 111 [vr 80] (z_Y T G s) = some (vi (iI 0), z_Y T G' s') ∧ n_C B L (705 * G 81 5) G N (j_tx (n_K B L) (n_V B L) 25 [] 0).2.2 (j_tx (n_K B L) (n_V B L) 25 [] 0).2.1 G' (s'.2 80 11)) ∧ ((j_tx (n_K B L) (n_V B L) 25 [] 0).1 ≠ 0 → (0 ≤ (j_tx (n_K B L) (n_V B L) 25 [] 0).1 ∧ (j_tx (n_K B L) (n_V B L) 25 [] 0).1 ≤ 6) ∧ ∃ G' s', z_call E 111 [vr 80] (z_Y T G s) = some (vi (iI (j_tx (n_K B L) (n_V B L) 25 [] 0).1), z_Y T G' s') ∧ n_Q B L (705 * G 81 5) G (j_tx (n_K B L) (n_V B L) 25 [] 0).2.1 G' (s'.2 80 11)) := by
  obtain ⟨d, rfl⟩ : ∃ d, E = d + 2 + 1 := ⟨E - 3, by omega⟩
  generalize ht : 705 * G 81 5 = t0 at *
  generalize hR : z_ro (z_ro (z_ro (z_ro (G 80) 12 t0) 13 0) 20 0) 7 0 = R
  have r7 : R 7 = 0 := by rw [← hR, z_ro_eq]
  have r12 : R 12 = t0 := by rw [← hR, z_ro_ne _ _ (by omega), z_ro_ne _ _ (by omega), z_ro_ne _ _ (by omega), z_ro_eq]
  have r13 : R 13 = 0 := by rw [← hR, z_ro_ne _ _ (by omega), z_ro_ne _ _ (by omega), z_ro_eq]
  have r20 : R 20 = 0 := by rw [← hR, z_ro_ne _ _ (by omega), z_ro_eq]
  have ro : ∀ k, k ≠ 7 → k ≠ 12 → k ≠ 13 → k ≠ 20 → R k = G 80 k := fun k a b c e => by rw [← hR, z_ro_ne _ _ a, z_ro_ne _ _ e, z_ro_ne _ _ c, z_ro_ne _ _ b]
  have hB1 : y_tm (z_up (z_up G 83 (z_ro (G 83) t0 0)) 80 R) B L := by
    unfold y_tm at hB ⊢
    rw [z_up_eq, z_up_ne _ _ (show 84 ≠ 80 by omega), z_up_ne _ _ (show 84 ≠ 83 by omega), ro 4 (by omega) (by omega) (by omega) (by omega)]
    exact hB
  obtain ⟨R1, s1, e1, m1, k1⟩ := p_next0 d T (z_up (z_up G 83 (z_ro (G 83) t0 0)) 80 R) s hB1 (by rw [z_up_eq]; exact r7)
  rw [z_up_up] at e1
  rw [z_up_eq] at k1
  have em : z_call (d + 2 + 1) 111 [vr 80] (z_Y T G s) = z_w d_M_readText (z_call (d + 2)) 43 [some (vr 80), none] [] (z_Y T (z_up (z_up G 83 (z_ro (G 83) t0 0)) 80 R1) s1) := by
    rw [e_M_readText]
    have cm : ∀ w w', z_up (z_up (z_up G 80 w) 83 (z_ro (G 83) t0 0)) 80 w' = z_up (z_up G 83 (z_ro (G 83) t0 0)) 80 w' := fun w w' => by
      rw [z_up_cm _ _ _ (by omega), z_up_up]
      funext a
      unfold z_up
      by_cases c1 : a = 83 <;> by_cases c2 : a = 80 <;> simp only [c1, c2, if_true, if_false] <;> first | omega | rfl
    simp -implicitDefEqProofs (disch := first | assumption | omega | rfl | (simp only [z_up_eq, z_up_app, ↓reduceIte, Nat.reduceEqDiff]; omega)) only [z_lit0, z_lit1, z_lit2, z_litl, iI_add, iI_sub, iI_mul, iI_neg, iI_and, iI_or, iI_xor, iI_shl, iI_shr, iI_ushr, iI_div, iI_b, iI_c, iI_i2l, lI_l2i, lI_add, lI_sub, lI_mul, lI_neg, lI_div, lI_or, lI_and, lI_shl, lI_shr, nI_iI, lg_lt0, lg_gt0, lg_eq0, i_ne0', l_ne0', iI_lt, iI_le, iI_eq, lI_lt, lI_le, lI_eq, zb_0, zb_fit, zb_fit0, zb_fit1, i_one_zero, i_w_in, z_tb0, z_tb1, z_tb2, z_tb3, z_tb4, z_tb5, z_tb6, z_tb7, z_tb8, z_tbl, z_tu0, z_tu1, z_tu2, z_i_62, z_i_63, z_i_86, z_i_88, z_l_Y, z_ui_62, z_ui_63, z_ui_86, z_ui_88, z_ul_Y, z_sz_Y, z_sw_Y, iI_nat, z_ix_t, z_at, Int.add_zero, Int.sub_zero, Int.zero_add, Int.mul_zero, ne_eq, Bool.false_eq_true, Bool.true_eq_false, reduceCtorEq, eq_self, and_true, true_and, and_false, false_and, and_self, not_true_eq_false, not_false_eq_true, decide_true, decide_false, ↓reduceIte, Int.reduceEq, Int.reduceNe, Int.reduceLT, Int.reduceLE, Int.reduceAdd, Int.reduceSub, Int.reduceMul, Int.reduceNeg, Nat.reduceAdd, Nat.reduceEqDiff, Nat.reduceBEq, ↓z_x_eq, z_g_t, z_bI_s, z_bL_s, z_bR_s, z_bV_s, Int.cast_ofNat_Int, beq_self_eq_true, Bool.and_true, Bool.true_and, Bool.and_self, Bool.or_true, Bool.true_or, Bool.false_and, Bool.and_false, Bool.false_or, Bool.or_false, Bool.not_false, Bool.not_true, if_true, if_false, ite_true, ite_false, z_up_eq, z_up_app, z_ro_eq, ht, z_up_up, cm, hR, e1]
  rw [em]
  refine p_mread_43 (E := d + 2) (by omega) hB (by omega) hN hK 25 [] 0 _ s1 rfl ⟨⟨?_, fun i a => ?_, fun k a => ?_, fun r a b c => ?_⟩, ⟨?_, ?_, fun q hq => ?_⟩, ?_, trivial, Nat.zero_le _, Nat.zero_le _, Nat.zero_le _⟩
  · rw [z_up_eq]; exact m1
  · rw [z_up_ne _ _ (show 83 ≠ 80 by omega), z_up_eq, z_ro_ne _ _ (by omega)]
  · rw [z_up_eq, k1 k (by omega), ro k (by omega) (by omega) (by omega) (by omega)]
  · rw [z_up_ne _ _ a, z_up_ne _ _ b]
  · rw [z_up_eq, k1 12 (by omega)]; exact r12
  · rw [z_up_eq, k1 13 (by omega)]; exact r13
  · rw [z_up_eq, k1 20 (by omega), r20, i_has_0 (by omega)]; rfl
  · rw [z_up_ne _ _ (show 83 ≠ 80 by omega), z_up_eq, z_ro_eq]; rfl
end

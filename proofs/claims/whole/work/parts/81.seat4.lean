/-! THE PURE PART, 61: seated -/
def s_b2 (H : List Nat → Int) : List (List Nat) → Int → List Nat → Int × List Nat
  | [], mo, B => (mo, B)
  | L :: R, mo, B => if mo < H L then s_b2 H R (H L) L else s_b2 H R mo B
theorem s_b2_bs (H : List Nat → Int) : ∀ (R : List (List Nat)) (B : List Nat), s_b2 H R (H B) B = (H (s_bs H R B), s_bs H R B)
  | [], _ => rfl
  | L :: R, B => by
    show (if H B < H L then s_b2 H R (H L) L else s_b2 H R (H B) B) = _
    unfold s_bs
    split
    · exact s_b2_bs H R L
    · exact s_b2_bs H R B
theorem p_mb_184 (d : Nat) (T : ZT) (G : ZG) (s : ZG × ZG) {A : Int → Int} {mo : Int} (hM : m_ok A) (hS : ∀ q, 0 ≤ q → q < A 1 → G 93 q = A (32 + 5 * q + 3)) : ∀ (m : Nat) (p : Int) (R : Int → Int), 0 ≤ p → p + m = A 1 → s_fr A R → (∀ q, 0 ≤ q → q < p → R (32 + 5 * q + 3) = A (32 + 5 * q + 3)) → z_w d_M_bestSeats (z_call (d + 1)) 184 [some (vr 80), none, some (vi (iI mo)), none, some (vi (iI p)), none] [] (z_Y T (z_up G 81 R) s) = some (vi (iI mo), z_Y T (z_up G 81 A) s)
  | 0, p, R, h0, h, hf, h1 => by
    have m1 := hM.2.1
    have e1 : R 1 = A 1 := hf 1 (fun p c e => by omega)
    have c : (p < A 1) = False := eq_false (by omega)
    have e : R = A := by
      funext k
      by_cases q : ∃ j, 0 ≤ j ∧ j < A 1 ∧ k = 32 + 5 * j + 3
      · obtain ⟨j, a, b, e⟩ := q
        rw [e]; exact h1 j a (by omega)
      · exact hf k (fun j a b e => q ⟨j, a, b, e⟩)
    rw [e_M_bestSeats_184]
    simp -implicitDefEqProofs (disch := first | assumption | omega | rfl | (simp only [z_up_eq, z_up_app, ↓reduceIte, Nat.reduceEqDiff]; omega)) only [z_lit0, z_lit1, z_lit2, z_litl, iI_add, iI_sub, iI_mul, iI_neg, iI_and, iI_or, iI_xor, iI_shl, iI_shr, iI_ushr, iI_div, iI_b, iI_c, iI_i2l, lI_l2i, lI_add, lI_sub, lI_mul, lI_neg, lI_div, lI_or, lI_and, lI_shl, lI_shr, nI_iI, lg_lt0, lg_gt0, lg_eq0, i_ne0', l_ne0', iI_lt, iI_le, iI_eq, lI_lt, lI_le, lI_eq, zb_0, zb_fit, zb_fit0, zb_fit1, i_one_zero, i_w_in, z_tb0, z_tb1, z_tb2, z_tb3, z_tb4, z_tb5, z_tb6, z_tb7, z_tb8, z_tbl, z_tu0, z_tu1, z_tu2, z_i_62, z_i_63, z_i_86, z_i_88, z_l_Y, z_ui_62, z_ui_63, z_ui_86, z_ui_88, z_ul_Y, z_sz_Y, z_sw_Y, iI_nat, z_ix_t, z_at, Int.add_zero, Int.sub_zero, Int.zero_add, Int.mul_zero, ne_eq, Bool.false_eq_true, Bool.true_eq_false, reduceCtorEq, eq_self, and_true, true_and, and_false, false_and, and_self, not_true_eq_false, not_false_eq_true, decide_true, decide_false, ↓reduceIte, Int.reduceEq, Int.reduceNe, Int.reduceLT, Int.reduceLE, Int.reduceAdd, Int.reduceSub, Int.reduceMul, Int.reduceNeg, Nat.reduceAdd, Nat.reduceEqDiff, Nat.reduceBEq, ↓z_x_eq, z_g_t, z_bI_s, z_bL_s, z_bR_s, z_bV_s, Int.cast_ofNat_Int, beq_self_eq_true, Bool.and_true, Bool.true_and, Bool.and_self, Bool.or_true, Bool.true_or, Bool.false_and, Bool.and_false, Bool.false_or, Bool.or_false, Bool.not_false, Bool.not_true, if_true, if_false, ite_true, ite_false, z_up_eq, z_up_app, z_ro_eq, e1, c]
    rw [e]
  | m + 1, p, R, h0, h, hf, h1 => by
    have m1 := hM.2.1
    have e1 : R 1 = A 1 := hf 1 (fun p c e => by omega)
    have c : (p < A 1) = True := eq_true (by omega)
    have s93 := hS p h0 (by omega)
    have ps := p_set d T (z_up G 81 R) s (p := p) (w := 3) (v := A (32 + 5 * p + 3)) (by omega)
    rw [z_up_eq, z_up_up] at ps
    have ih := p_mb_184 d T G s (mo := mo) hM hS m (p + 1) (z_ro R (32 + 5 * p + 3) (A (32 + 5 * p + 3))) (by omega) (by omega) (s_fr_set hf ⟨h0, by omega⟩) (fun q a b => by
      by_cases e : q = p
      · rw [e, z_ro_eq]
      · rw [z_ro_ne _ _ (by omega)]; exact h1 q a (by omega))
    rw [← ih, e_M_bestSeats_184]
    simp -implicitDefEqProofs (disch := first | assumption | omega | rfl | (simp only [z_up_eq, z_up_app, ↓reduceIte, Nat.reduceEqDiff]; omega)) only [z_lit0, z_lit1, z_lit2, z_litl, iI_add, iI_sub, iI_mul, iI_neg, iI_and, iI_or, iI_xor, iI_shl, iI_shr, iI_ushr, iI_div, iI_b, iI_c, iI_i2l, lI_l2i, lI_add, lI_sub, lI_mul, lI_neg, lI_div, lI_or, lI_and, lI_shl, lI_shr, nI_iI, lg_lt0, lg_gt0, lg_eq0, i_ne0', l_ne0', iI_lt, iI_le, iI_eq, lI_lt, lI_le, lI_eq, zb_0, zb_fit, zb_fit0, zb_fit1, i_one_zero, i_w_in, z_tb0, z_tb1, z_tb2, z_tb3, z_tb4, z_tb5, z_tb6, z_tb7, z_tb8, z_tbl, z_tu0, z_tu1, z_tu2, z_i_62, z_i_63, z_i_86, z_i_88, z_l_Y, z_ui_62, z_ui_63, z_ui_86, z_ui_88, z_ul_Y, z_sz_Y, z_sw_Y, iI_nat, z_ix_t, z_at, Int.add_zero, Int.sub_zero, Int.zero_add, Int.mul_zero, ne_eq, Bool.false_eq_true, Bool.true_eq_false, reduceCtorEq, eq_self, and_true, true_and, and_false, false_and, and_self, not_true_eq_false, not_false_eq_true, decide_true, decide_false, ↓reduceIte, Int.reduceEq, Int.reduceNe, Int.reduceLT, Int.reduceLE, Int.reduceAdd, Int.reduceSub, Int.reduceMul, Int.reduceNeg, Nat.reduceAdd, Nat.reduceEqDiff, Nat.reduceBEq, ↓z_x_eq, z_g_t, z_bI_s, z_bL_s, z_bR_s, z_bV_s, Int.cast_ofNat_Int, beq_self_eq_true, Bool.and_true, Bool.true_and, Bool.and_self, Bool.or_true, Bool.true_or, Bool.false_and, Bool.and_false, Bool.false_or, Bool.or_false, Bool.not_false, Bool.not_true, if_true, if_false, ite_true, ite_false, z_up_eq, z_up_app, z_ro_eq, e1, c, s93, ps]
theorem p_mb_64 (d : Nat) (T : ZT) (G : ZG) {A W0 P : Int → Int} {x y : Int} {n : Nat} (hQ : m_q (z_up G 81 A)) (hic : G 80 24 = -1) (hn : 1 ≤ n ∧ n ≤ 5) (hnx : (n : Int) = z_cnt 10 0 (i_has x)) (hx : 0 ≤ x ∧ x < i_shl 1 (A 1)) (h31 : G 80 31 = n) (h89 : G 89 = (s_lay x 10 0 0 W0).2) (h90 : G 90 = P) (hP : ∀ j : Int, 0 ≤ j → j < n → 0 ≤ P j ∧ P j < A 0) (hS : ∀ q, 0 ≤ q → q < A 1 → G 93 q = A (32 + 5 * q + 3)) : ∀ (Rs : List (List Nat)) (L : List Nat) (mo : Int) (B : List Nat) (G1 : ZG) (s : ZG × ZG), o_chk n (L :: Rs) = true → (∀ r, r ≠ 81 → r ≠ 91 → r ≠ 92 → G1 r = G r) → s_fr A (G1 81) → (∀ p, 0 ≤ p → p < A 1 → i_has x p = false → G1 81 (32 + 5 * p + 3) = s_s1 A y p) → o_ag n (G1 91) (o_e L) → (-1 ≤ mo ∧ mo ≤ 12) → (mo = -1 ∨ ∀ j : Int, 0 ≤ j → j < n → G1 92 j = P (o_e B j)) → ∃ G2 s2, z_w d_M_bestSeats (z_call (d + 8)) 64 [some (vr 80), none, some (vi (iI mo)), some (vi (iI 1)), none, none] [] (z_Y T G1 s) = some (vi (iI (s_b2 (s_hc A (G 83) (s_lay x 10 0 0 W0).2 P x y n (A 2).toNat 0) (L :: Rs) mo B).1), z_Y T G2 s2) ∧ (∀ r, r ≠ 81 → r ≠ 91 → r ≠ 92 → G2 r = G r) ∧ G2 81 = A ∧ ((s_b2 (s_hc A (G 83) (s_lay x 10 0 0 W0).2 P x y n (A 2).toNat 0) (L :: Rs) mo B).1 = -1 ∨ ∀ j : Int, 0 ≤ j → j < n → G2 92 j = P (o_e (s_b2 (s_hc A (G 83) (s_lay x 10 0 0 W0).2 P x y n (A 2).toNat 0) (L :: Rs) mo B).2 j)) := by
  unfold m_q at hQ
  rw [z_up_eq, z_up_ne _ _ (show 83 ≠ 81 by omega), z_up_ne _ _ (show 80 ≠ 81 by omega)] at hQ
  have hM := hQ.1
  have m1 := hM.2.1
  have m2 := hM.2.2.1
  have hmem := s_mem_lay hnx W0
  have hlt : ∀ k : Int, 0 ≤ k → k < n → (s_lay x 10 0 0 W0).2 k < A 1 := fun k a b => i_has_lt m1 hx ⟨(hmem.1 k a b).1, (hmem.1 k a b).2.1⟩ (hmem.1 k a b).2.2
  have hHin : ∀ L, 0 ≤ s_hc A (G 83) (s_lay x 10 0 0 W0).2 P x y n (A 2).toNat 0 L ∧ s_hc A (G 83) (s_lay x 10 0 0 W0).2 P x y n (A 2).toNat 0 L ≤ 12 := fun L => by
    have := z_cnt_in (fun no => m_holds A (G 83) (A 6) no (s_air A (G 83) (s_lay x 10 0 0 W0).2 P x y (A (82 + 2 * no)) n (o_e L)) (A (82 + 2 * no))) (A 2).toNat 0
    unfold s_hc
    omega
  have hmany := fun (R : Int → Int) (L : List Nat) hf hR hs => s_many (X := G 83) (R := R) (W := W0) (P := P) (y := y) (hb := G 80 25) (L := L) hM hnx hx hf hR hs
  generalize hM' : (s_lay x 10 0 0 W0).2 = M at *
  generalize hHH : s_hc A (G 83) M P x y n (A 2).toNat 0 = H at *
  have key : ∀ (L : List Nat) (mo : Int) (G1 : ZG) s, o_okL n L = true → (∀ r, r ≠ 81 → r ≠ 91 → r ≠ 92 → G1 r = G r) → s_fr A (G1 81) → (∀ p, 0 ≤ p → p < A 1 → i_has x p = false → G1 81 (32 + 5 * p + 3) = s_s1 A y p) → o_ag n (G1 91) (o_e L) → (-1 ≤ mo ∧ mo ≤ 12) → ∃ G2 s2, z_w d_M_bestSeats (z_call (d + 8)) 64 [some (vr 80), none, some (vi (iI mo)), some (vi (iI 1)), none, none] [] (z_Y T G1 s) = z_w d_M_bestSeats (z_call (d + 8)) 64 [some (vr 80), none, some (vi (iI (if mo < H L then H L else mo))), some (vi (iI (zb (o_nx n (o_e L)).1))), none, none] [] (z_Y T G2 s2) ∧ (∀ r, r ≠ 81 → r ≠ 91 → r ≠ 92 → G2 r = G r) ∧ s_fr A (G2 81) ∧ (∀ p, 0 ≤ p → p < A 1 → i_has x p = false → G2 81 (32 + 5 * p + 3) = s_s1 A y p) ∧ o_ag n (G2 91) (o_nx n (o_e L)).2 ∧ (mo < H L → ∀ j : Int, 0 ≤ j → j < n → G2 92 j = P (o_e L j)) ∧ (¬ mo < H L → G2 92 = G1 92) := by
    intro L mo G1 s hL hG1 hf hno hO hmo
    have hE := o_okL_in hL
    have hb : ∀ i : Int, 0 ≤ i → i < n → i_in (o_e L i) := fun i a b => by have := hE i a b; exact ⟨by omega, by omega⟩
    have g80 := hG1 80 (by omega) (by omega) (by omega)
    obtain ⟨R', e71, f1, f2, f3⟩ := p_mb_71 (d + 7) T G1 s (mo := mo) (E := o_e L) hM hn.2 (by rw [g80]; exact h31) ((hG1 89 (by omega) (by omega) (by omega)).trans h89) ((hG1 90 (by omega) (by omega) (by omega)).trans h90) hmem hlt hO hE n 0 (G1 81) (by omega) (by omega) hf (fun j a b => by omega)
    rw [z_up_id] at e71
    have hseat : ∀ p, 0 ≤ p → p < A 1 → R' (32 + 5 * p + 3) = s_sL A M P x y n (o_e L) p := by
      intro p a b
      unfold s_sL
      cases hp : i_has x p
      · rw [if_neg (by decide), f3 p a (by omega) hp]; exact hno p a b hp
      · rw [if_pos rfl]
        obtain ⟨k, k1, k2, k3⟩ := hmem.2.2 p a (by omega) hp
        rw [← k3, s_mem_ix hmem ⟨k1, k2⟩]; exact f2 k k1 k2
    have hR : m_ok R' := s_fr_ok hM f1 (fun p a b => by
      rw [hseat p a b]
      unfold s_sL
      cases hp : i_has x p
      · rw [if_neg (by decide)]
        have := (mo_p hM p a b).2.2.2.1
        unfold s_s1
        split <;> omega
      · rw [if_pos rfl]
        obtain ⟨k, k1, k2, k3⟩ := hmem.2.2 p a (by omega) hp
        rw [← k3, s_mem_ix hmem ⟨k1, k2⟩]
        have := hE k k1 k2
        have := hP (o_e L k) this.1 this.2
        omega)
    have hq2 : m_q (z_up G1 81 R') := by
      unfold m_q
      rw [z_up_eq, z_up_ne _ _ (show 83 ≠ 81 by omega), z_up_ne _ _ (show 80 ≠ 81 by omega), g80, hG1 83 (by omega) (by omega) (by omega), f1 5 (fun p c e => by omega)]
      exact ⟨hR, hQ.2⟩
    obtain ⟨v, τ, em, rfl, s1, rfl⟩ := p_mmany d T (z_up G1 81 R') s (la := 0) (by omega) hq2
    rw [z_up_eq, z_up_ne _ _ (show 83 ≠ 81 by omega), z_up_ne _ _ (show 80 ≠ 81 by omega), g80, hG1 83 (by omega) (by omega) (by omega), hic, hmany R' L f1 hR hseat] at em
    have hh := hHin L
    have e64 : z_w d_M_bestSeats (z_call (d + 8)) 64 [some (vr 80), none, some (vi (iI mo)), some (vi (iI 1)), none, none] [] (z_Y T G1 s) = z_w d_M_bestSeats (z_call (d + 8)) 120 [some (vr 80), none, some (vi (iI mo)), none, some (vi (iI (H L))), some (vi (iI 0))] [] (z_Y T (z_up G1 81 R') s1) := by
      rw [e_M_bestSeats_64]
      simp -implicitDefEqProofs (disch := first | assumption | omega | rfl | (simp only [z_up_eq, z_up_app, ↓reduceIte, Nat.reduceEqDiff]; omega)) only [z_lit0, z_lit1, z_lit2, z_litl, iI_add, iI_sub, iI_mul, iI_neg, iI_and, iI_or, iI_xor, iI_shl, iI_shr, iI_ushr, iI_div, iI_b, iI_c, iI_i2l, lI_l2i, lI_add, lI_sub, lI_mul, lI_neg, lI_div, lI_or, lI_and, lI_shl, lI_shr, nI_iI, lg_lt0, lg_gt0, lg_eq0, i_ne0', l_ne0', iI_lt, iI_le, iI_eq, lI_lt, lI_le, lI_eq, zb_0, zb_fit, zb_fit0, zb_fit1, i_one_zero, i_w_in, z_tb0, z_tb1, z_tb2, z_tb3, z_tb4, z_tb5, z_tb6, z_tb7, z_tb8, z_tbl, z_tu0, z_tu1, z_tu2, z_i_62, z_i_63, z_i_86, z_i_88, z_l_Y, z_ui_62, z_ui_63, z_ui_86, z_ui_88, z_ul_Y, z_sz_Y, z_sw_Y, iI_nat, z_ix_t, z_at, Int.add_zero, Int.sub_zero, Int.zero_add, Int.mul_zero, ne_eq, Bool.false_eq_true, Bool.true_eq_false, reduceCtorEq, eq_self, and_true, true_and, and_false, false_and, and_self, not_true_eq_false, not_false_eq_true, decide_true, decide_false, ↓reduceIte, Int.reduceEq, Int.reduceNe, Int.reduceLT, Int.reduceLE, Int.reduceAdd, Int.reduceSub, Int.reduceMul, Int.reduceNeg, Nat.reduceAdd, Nat.reduceEqDiff, Nat.reduceBEq, ↓z_x_eq, z_g_t, z_bI_s, z_bL_s, z_bR_s, z_bV_s, Int.cast_ofNat_Int, beq_self_eq_true, Bool.and_true, Bool.true_and, Bool.and_self, Bool.or_true, Bool.true_or, Bool.false_and, Bool.and_false, Bool.false_or, Bool.or_false, Bool.not_false, Bool.not_true, if_true, if_false, ite_true, ite_false, z_up_eq, z_up_app, z_ro_eq, e71, em]
    by_cases c : mo < H L
    · obtain ⟨W', e120, kw⟩ := p_mb_120 (d + 8) T (z_up G1 81 R') s1 (mo := mo) (ma := H L) (E := o_e L) (P := P) hn.2 (by rw [z_up_ne _ _ (by omega), g80]; exact h31) (by rw [z_up_ne _ _ (by omega)]; exact (hG1 90 (by omega) (by omega) (by omega)).trans h90) (by rw [z_up_ne _ _ (by omega)]; exact hO) hE ⟨⟨by omega, by omega⟩, ⟨by omega, by omega⟩⟩ c n 0 (z_up G1 81 R' 92) (by omega) (by omega) (fun j a b => by omega)
      rw [z_up_id] at e120
      obtain ⟨O', en, ko⟩ := p_mnx (d + 7) T (z_up (z_up G1 81 R') 92 W') s1 (n := n) (E := o_e L) hn (by rw [z_up_ne _ _ (by omega), z_up_ne _ _ (by omega), g80]; exact h31) (by rw [z_up_ne _ _ (by omega), z_up_ne _ _ (by omega)]; exact hO) hb
      refine ⟨z_up (z_up (z_up G1 81 R') 92 W') 91 O', s1, ?_, fun r a b e => ?_, ?_, ?_, ?_, fun _ => ?_, fun q => absurd c q⟩
      · rw [e64, e120, en, if_pos c]; rfl
      · rw [z_up_ne _ _ b, z_up_ne _ _ e, z_up_ne _ _ a]; exact hG1 r a b e
      · rw [z_up_ne _ _ (by omega), z_up_ne _ _ (by omega), z_up_eq]; exact f1
      · rw [z_up_ne _ _ (by omega), z_up_ne _ _ (by omega), z_up_eq]
        exact fun p a b e => (f3 p a (by omega) e).trans (hno p a b e)
      · rw [z_up_eq]; exact ko
      · rw [z_up_ne _ _ (by omega), z_up_eq]; exact kw
    · have c' : (mo < H L) = False := eq_false c
      have c0 : ((0 : Int) < n) = True := eq_true (by omega)
      have g31 : z_up G1 81 R' 80 31 = n := by rw [z_up_ne _ _ (by omega), g80]; exact h31
      obtain ⟨O', en, ko⟩ := p_mnx (d + 7) T (z_up G1 81 R') s1 (n := n) (E := o_e L) hn g31 (by rw [z_up_ne _ _ (by omega)]; exact hO) hb
      have g80' : G1 80 31 = n := by rw [g80]; exact h31
      refine ⟨z_up (z_up G1 81 R') 91 O', s1, ?_, fun r a b e => ?_, ?_, ?_, ?_, fun q => absurd q c, fun _ => ?_⟩
      · rw [e64, if_neg c, e_M_bestSeats_120]
        simp -implicitDefEqProofs (disch := first | assumption | omega | rfl | (simp only [z_up_eq, z_up_app, ↓reduceIte, Nat.reduceEqDiff]; omega)) only [z_lit0, z_lit1, z_lit2, z_litl, iI_add, iI_sub, iI_mul, iI_neg, iI_and, iI_or, iI_xor, iI_shl, iI_shr, iI_ushr, iI_div, iI_b, iI_c, iI_i2l, lI_l2i, lI_add, lI_sub, lI_mul, lI_neg, lI_div, lI_or, lI_and, lI_shl, lI_shr, nI_iI, lg_lt0, lg_gt0, lg_eq0, i_ne0', l_ne0', iI_lt, iI_le, iI_eq, lI_lt, lI_le, lI_eq, zb_0, zb_fit, zb_fit0, zb_fit1, i_one_zero, i_w_in, z_tb0, z_tb1, z_tb2, z_tb3, z_tb4, z_tb5, z_tb6, z_tb7, z_tb8, z_tbl, z_tu0, z_tu1, z_tu2, z_i_62, z_i_63, z_i_86, z_i_88, z_l_Y, z_ui_62, z_ui_63, z_ui_86, z_ui_88, z_ul_Y, z_sz_Y, z_sw_Y, iI_nat, z_ix_t, z_at, Int.add_zero, Int.sub_zero, Int.zero_add, Int.mul_zero, ne_eq, Bool.false_eq_true, Bool.true_eq_false, reduceCtorEq, eq_self, and_true, true_and, and_false, false_and, and_self, not_true_eq_false, not_false_eq_true, decide_true, decide_false, ↓reduceIte, Int.reduceEq, Int.reduceNe, Int.reduceLT, Int.reduceLE, Int.reduceAdd, Int.reduceSub, Int.reduceMul, Int.reduceNeg, Nat.reduceAdd, Nat.reduceEqDiff, Nat.reduceBEq, ↓z_x_eq, z_g_t, z_bI_s, z_bL_s, z_bR_s, z_bV_s, Int.cast_ofNat_Int, beq_self_eq_true, Bool.and_true, Bool.true_and, Bool.and_self, Bool.or_true, Bool.true_or, Bool.false_and, Bool.and_false, Bool.false_or, Bool.or_false, Bool.not_false, Bool.not_true, if_true, if_false, ite_true, ite_false, z_up_eq, z_up_app, z_ro_eq, g80', c0, c', en]
      · rw [z_up_ne _ _ b, z_up_ne _ _ a]; exact hG1 r a b e
      · rw [z_up_ne _ _ (by omega), z_up_eq]; exact f1
      · rw [z_up_ne _ _ (by omega), z_up_eq]
        exact fun p a b e => (f3 p a (by omega) e).trans (hno p a b e)
      · rw [z_up_eq]; exact ko
      · rw [z_up_ne _ _ (by omega), z_up_ne _ _ (by omega)]
  have fin : ∀ (mo : Int) (G1 : ZG) s, (∀ r, r ≠ 81 → r ≠ 91 → r ≠ 92 → G1 r = G r) → s_fr A (G1 81) → z_w d_M_bestSeats (z_call (d + 8)) 64 [some (vr 80), none, some (vi (iI mo)), some (vi (iI 0)), none, none] [] (z_Y T G1 s) = some (vi (iI mo), z_Y T (z_up G1 81 A) s) := by
    intro mo G1 s hG1 hf
    have := p_mb_184 (d + 7) T G1 s (mo := mo) hM (by rw [hG1 93 (by omega) (by omega) (by omega)]; exact hS) (A 1).toNat 0 (G1 81) (by omega) (by omega) hf (fun q a b => by omega)
    rw [z_up_id] at this
    rw [e_M_bestSeats_64]
    simp -implicitDefEqProofs (disch := first | assumption | omega | rfl | (simp only [z_up_eq, z_up_app, ↓reduceIte, Nat.reduceEqDiff]; omega)) only [z_lit0, z_lit1, z_lit2, z_litl, iI_add, iI_sub, iI_mul, iI_neg, iI_and, iI_or, iI_xor, iI_shl, iI_shr, iI_ushr, iI_div, iI_b, iI_c, iI_i2l, lI_l2i, lI_add, lI_sub, lI_mul, lI_neg, lI_div, lI_or, lI_and, lI_shl, lI_shr, nI_iI, lg_lt0, lg_gt0, lg_eq0, i_ne0', l_ne0', iI_lt, iI_le, iI_eq, lI_lt, lI_le, lI_eq, zb_0, zb_fit, zb_fit0, zb_fit1, i_one_zero, i_w_in, z_tb0, z_tb1, z_tb2, z_tb3, z_tb4, z_tb5, z_tb6, z_tb7, z_tb8, z_tbl, z_tu0, z_tu1, z_tu2, z_i_62, z_i_63, z_i_86, z_i_88, z_l_Y, z_ui_62, z_ui_63, z_ui_86, z_ui_88, z_ul_Y, z_sz_Y, z_sw_Y, iI_nat, z_ix_t, z_at, Int.add_zero, Int.sub_zero, Int.zero_add, Int.mul_zero, ne_eq, Bool.false_eq_true, Bool.true_eq_false, reduceCtorEq, eq_self, and_true, true_and, and_false, false_and, and_self, not_true_eq_false, not_false_eq_true, decide_true, decide_false, ↓reduceIte, Int.reduceEq, Int.reduceNe, Int.reduceLT, Int.reduceLE, Int.reduceAdd, Int.reduceSub, Int.reduceMul, Int.reduceNeg, Nat.reduceAdd, Nat.reduceEqDiff, Nat.reduceBEq, ↓z_x_eq, z_g_t, z_bI_s, z_bL_s, z_bR_s, z_bV_s, Int.cast_ofNat_Int, beq_self_eq_true, Bool.and_true, Bool.true_and, Bool.and_self, Bool.or_true, Bool.true_or, Bool.false_and, Bool.and_false, Bool.false_or, Bool.or_false, Bool.not_false, Bool.not_true, if_true, if_false, ite_true, ite_false, z_up_eq, z_up_app, z_ro_eq, this]
  intro Rs
  induction Rs with
  | nil =>
    intro L mo B G1 s hchk hG1 hf hno hO hmo hB
    obtain ⟨c1, c2⟩ := o_chk_1 hchk
    obtain ⟨G2, s2, e, q1, q2, q3, q4, q5, q6⟩ := key L mo G1 s c1 hG1 hf hno hO hmo
    rw [c2] at e
    have e2 : s_b2 H [L] mo B = if mo < H L then (H L, L) else (mo, B) := rfl
    refine ⟨z_up G2 81 A, s2, ?_, fun r a b c => by rw [z_up_ne _ _ a]; exact q1 r a b c, z_up_eq _ _ _, ?_⟩
    · rw [e, show zb false = 0 from rfl, fin _ G2 s2 q1 q2, e2]
      split <;> rfl
    · rw [e2, z_up_ne _ _ (show 92 ≠ 81 by omega)]
      by_cases c : mo < H L
      · rw [if_pos c]; exact Or.inr (q5 c)
      · rw [if_neg c, q6 c]; exact hB
  | cons L' Rs ih =>
    intro L mo B G1 s hchk hG1 hf hno hO hmo hB
    obtain ⟨c1, c2, c3, c4⟩ := o_chk_2 hchk
    obtain ⟨G2, s2, e, q1, q2, q3, q4, q5, q6⟩ := key L mo G1 s c1 hG1 hf hno hO hmo
    rw [c2] at e
    have hh := hHin L
    by_cases c : mo < H L
    · rw [if_pos c] at e
      obtain ⟨G3, s3, e3, r1, r2, r3⟩ := ih L' (H L) L G2 s2 c4 q1 q2 q3 (fun i a b => (q4 i a b).trans (c3 i a b)) (by omega) (Or.inr (q5 c))
      have e2 : s_b2 H (L :: L' :: Rs) mo B = s_b2 H (L' :: Rs) (H L) L := if_pos c
      rw [e2]
      exact ⟨G3, s3, e.trans e3, r1, r2, r3⟩
    · rw [if_neg c] at e
      obtain ⟨G3, s3, e3, r1, r2, r3⟩ := ih L' mo B G2 s2 c4 q1 q2 q3 (fun i a b => (q4 i a b).trans (c3 i a b)) hmo (by rw [q6 c]; exact hB)
      have e2 : s_b2 H (L :: L' :: Rs) mo B = s_b2 H (L' :: Rs) mo B := if_neg c
      rw [e2]
      exact ⟨G3, s3, e.trans e3, r1, r2, r3⟩
theorem p_ms_86 (d : Nat) (T : ZT) (G : ZG) (s : ZG × ZG) {n : Nat} {y p : Int} (hn : n ≤ 5) (hm : G 80 31 = n) : ∀ (m : Nat) (i : Int) (O : Int → Int), 0 ≤ i → i + m = n → (∀ k : Int, 0 ≤ k → k < i → O k = k) → ∃ O', z_w d_M_seated (z_call d) 86 [some (vr 80), none, some (vi (iI y)), some (vi (iI p)), some (vi (iI i)), none] [] (z_Y T (z_up G 91 O) s) = z_bI (z_call d 252 [vr 80, vi (iI y)] (z_Y T (z_up G 91 O') s)) (fun v2 σ1 => if iI p = iI (-1) then some (vi v2, σ1) else z_w d_M_seated (z_call d) 128 [some (vr 80), none, none, some (vi (iI p)), none, some (vi (iI 0))] [] σ1) ∧ ∀ k : Int, 0 ≤ k → k < n → O' k = k
  | 0, i, O, h0, h, hO => by
    have c : (i < n) = False := eq_false (by omega)
    refine ⟨O, ?_, fun k a b => hO k a (by omega)⟩
    rw [e_M_seated_86]
    simp -implicitDefEqProofs (disch := first | assumption | omega | rfl | (simp only [z_up_eq, z_up_app, ↓reduceIte, Nat.reduceEqDiff]; omega)) only [z_lit0, z_lit1, z_lit2, z_litl, iI_add, iI_sub, iI_mul, iI_neg, iI_and, iI_or, iI_xor, iI_shl, iI_shr, iI_ushr, iI_div, iI_b, iI_c, iI_i2l, lI_l2i, lI_add, lI_sub, lI_mul, lI_neg, lI_div, lI_or, lI_and, lI_shl, lI_shr, nI_iI, lg_lt0, lg_gt0, lg_eq0, i_ne0', l_ne0', iI_lt, iI_le, iI_eq, lI_lt, lI_le, lI_eq, zb_0, zb_fit, zb_fit0, zb_fit1, i_one_zero, i_w_in, z_tb0, z_tb1, z_tb2, z_tb3, z_tb4, z_tb5, z_tb6, z_tb7, z_tb8, z_tbl, z_tu0, z_tu1, z_tu2, z_i_62, z_i_63, z_i_86, z_i_88, z_l_Y, z_ui_62, z_ui_63, z_ui_86, z_ui_88, z_ul_Y, z_sz_Y, z_sw_Y, iI_nat, z_ix_t, z_at, Int.add_zero, Int.sub_zero, Int.zero_add, Int.mul_zero, ne_eq, Bool.false_eq_true, Bool.true_eq_false, reduceCtorEq, eq_self, and_true, true_and, and_false, false_and, and_self, not_true_eq_false, not_false_eq_true, decide_true, decide_false, ↓reduceIte, Int.reduceEq, Int.reduceNe, Int.reduceLT, Int.reduceLE, Int.reduceAdd, Int.reduceSub, Int.reduceMul, Int.reduceNeg, Nat.reduceAdd, Nat.reduceEqDiff, Nat.reduceBEq, ↓z_x_eq, z_g_t, z_bI_s, z_bL_s, z_bR_s, z_bV_s, Int.cast_ofNat_Int, beq_self_eq_true, Bool.and_true, Bool.true_and, Bool.and_self, Bool.or_true, Bool.true_or, Bool.false_and, Bool.and_false, Bool.false_or, Bool.or_false, Bool.not_false, Bool.not_true, if_true, if_false, ite_true, ite_false, z_up_eq, z_up_app, z_ro_eq, hm, c]
  | m + 1, i, O, h0, h, hO => by
    have c : (i < n) = True := eq_true (by omega)
    obtain ⟨O', e, k⟩ := p_ms_86 d T G s (y := y) (p := p) hn hm m (i + 1) (z_ro O i i) (by omega) (by omega) (fun k a b => by
      by_cases f : k = i
      · rw [f, z_ro_eq]
      · rw [z_ro_ne _ _ f]; exact hO k a (by omega))
    refine ⟨O', ?_, k⟩
    rw [← e, e_M_seated_86]
    simp -implicitDefEqProofs (disch := first | assumption | omega | rfl | (simp only [z_up_eq, z_up_app, ↓reduceIte, Nat.reduceEqDiff]; omega)) only [z_lit0, z_lit1, z_lit2, z_litl, iI_add, iI_sub, iI_mul, iI_neg, iI_and, iI_or, iI_xor, iI_shl, iI_shr, iI_ushr, iI_div, iI_b, iI_c, iI_i2l, lI_l2i, lI_add, lI_sub, lI_mul, lI_neg, lI_div, lI_or, lI_and, lI_shl, lI_shr, nI_iI, lg_lt0, lg_gt0, lg_eq0, i_ne0', l_ne0', iI_lt, iI_le, iI_eq, lI_lt, lI_le, lI_eq, zb_0, zb_fit, zb_fit0, zb_fit1, i_one_zero, i_w_in, z_tb0, z_tb1, z_tb2, z_tb3, z_tb4, z_tb5, z_tb6, z_tb7, z_tb8, z_tbl, z_tu0, z_tu1, z_tu2, z_i_62, z_i_63, z_i_86, z_i_88, z_l_Y, z_ui_62, z_ui_63, z_ui_86, z_ui_88, z_ul_Y, z_sz_Y, z_sw_Y, iI_nat, z_ix_t, z_at, Int.add_zero, Int.sub_zero, Int.zero_add, Int.mul_zero, ne_eq, Bool.false_eq_true, Bool.true_eq_false, reduceCtorEq, eq_self, and_true, true_and, and_false, false_and, and_self, not_true_eq_false, not_false_eq_true, decide_true, decide_false, ↓reduceIte, Int.reduceEq, Int.reduceNe, Int.reduceLT, Int.reduceLE, Int.reduceAdd, Int.reduceSub, Int.reduceMul, Int.reduceNeg, Nat.reduceAdd, Nat.reduceEqDiff, Nat.reduceBEq, ↓z_x_eq, z_g_t, z_bI_s, z_bL_s, z_bR_s, z_bV_s, Int.cast_ofNat_Int, beq_self_eq_true, Bool.and_true, Bool.true_and, Bool.and_self, Bool.or_true, Bool.true_or, Bool.false_and, Bool.and_false, Bool.false_or, Bool.or_false, Bool.not_false, Bool.not_true, if_true, if_false, ite_true, ite_false, z_up_eq, z_up_app, z_ro_eq, hm, c, z_up_up]
theorem p_ms_128 (d : Nat) (T : ZT) (G : ZG) (s : ZG × ZG) {n : Nat} {p : Int} (hn : n ≤ 5) (hp : i_in p) (hb : ∀ i : Int, 0 ≤ i → i < n → i_in (G 89 i)) : ∀ (m : Nat) (i : Int), 0 ≤ i → i + m = n → z_find m i (fun i => decide (G 89 i = p)) ≠ -1 → z_w d_M_seated (z_call d) 128 [some (vr 80), none, none, some (vi (iI p)), none, some (vi (iI i))] [] (z_Y T G s) = some (vi (iI (G 92 (z_find m i (fun i => decide (G 89 i = p))))), z_Y T G s)
  | 0, i, h0, h, hz => absurd rfl hz
  | m + 1, i, h0, h, hz => by
    have b := hb i h0 (by omega)
    by_cases c : G 89 i = p
    · have e : z_find (m + 1) i (fun i => decide (G 89 i = p)) = i := by show cond (decide (G 89 i = p)) _ _ = _; rw [decide_eq_true c]; rfl
      have c' : (G 89 i = p) = True := eq_true c
      rw [e, e_M_seated_128]
      simp -implicitDefEqProofs (disch := first | assumption | omega | rfl | (simp only [z_up_eq, z_up_app, ↓reduceIte, Nat.reduceEqDiff]; omega)) only [z_lit0, z_lit1, z_lit2, z_litl, iI_add, iI_sub, iI_mul, iI_neg, iI_and, iI_or, iI_xor, iI_shl, iI_shr, iI_ushr, iI_div, iI_b, iI_c, iI_i2l, lI_l2i, lI_add, lI_sub, lI_mul, lI_neg, lI_div, lI_or, lI_and, lI_shl, lI_shr, nI_iI, lg_lt0, lg_gt0, lg_eq0, i_ne0', l_ne0', iI_lt, iI_le, iI_eq, lI_lt, lI_le, lI_eq, zb_0, zb_fit, zb_fit0, zb_fit1, i_one_zero, i_w_in, z_tb0, z_tb1, z_tb2, z_tb3, z_tb4, z_tb5, z_tb6, z_tb7, z_tb8, z_tbl, z_tu0, z_tu1, z_tu2, z_i_62, z_i_63, z_i_86, z_i_88, z_l_Y, z_ui_62, z_ui_63, z_ui_86, z_ui_88, z_ul_Y, z_sz_Y, z_sw_Y, iI_nat, z_ix_t, z_at, Int.add_zero, Int.sub_zero, Int.zero_add, Int.mul_zero, ne_eq, Bool.false_eq_true, Bool.true_eq_false, reduceCtorEq, eq_self, and_true, true_and, and_false, false_and, and_self, not_true_eq_false, not_false_eq_true, decide_true, decide_false, ↓reduceIte, Int.reduceEq, Int.reduceNe, Int.reduceLT, Int.reduceLE, Int.reduceAdd, Int.reduceSub, Int.reduceMul, Int.reduceNeg, Nat.reduceAdd, Nat.reduceEqDiff, Nat.reduceBEq, ↓z_x_eq, z_g_t, z_bI_s, z_bL_s, z_bR_s, z_bV_s, Int.cast_ofNat_Int, beq_self_eq_true, Bool.and_true, Bool.true_and, Bool.and_self, Bool.or_true, Bool.true_or, Bool.false_and, Bool.and_false, Bool.false_or, Bool.or_false, Bool.not_false, Bool.not_true, if_true, if_false, ite_true, ite_false, z_up_eq, z_up_app, z_ro_eq, c']
    · have e : z_find (m + 1) i (fun i => decide (G 89 i = p)) = z_find m (i + 1) (fun i => decide (G 89 i = p)) := by show cond (decide (G 89 i = p)) _ _ = _; rw [decide_eq_false c]; rfl
      rw [e] at hz ⊢
      rw [← p_ms_128 d T G s hn hp hb m (i + 1) (by omega) (by omega) hz, e_M_seated_128]
      simp -implicitDefEqProofs (disch := first | assumption | omega | rfl | (simp only [z_up_eq, z_up_app, ↓reduceIte, Nat.reduceEqDiff]; omega)) only [z_lit0, z_lit1, z_lit2, z_litl, iI_add, iI_sub, iI_mul, iI_neg, iI_and, iI_or, iI_xor, iI_shl, iI_shr, iI_ushr, iI_div, iI_b, iI_c, iI_i2l, lI_l2i, lI_add, lI_sub, lI_mul, lI_neg, lI_div, lI_or, lI_and, lI_shl, lI_shr, nI_iI, lg_lt0, lg_gt0, lg_eq0, i_ne0', l_ne0', iI_lt, iI_le, iI_eq, lI_lt, lI_le, lI_eq, zb_0, zb_fit, zb_fit0, zb_fit1, i_one_zero, i_w_in, z_tb0, z_tb1, z_tb2, z_tb3, z_tb4, z_tb5, z_tb6, z_tb7, z_tb8, z_tbl, z_tu0, z_tu1, z_tu2, z_i_62, z_i_63, z_i_86, z_i_88, z_l_Y, z_ui_62, z_ui_63, z_ui_86, z_ui_88, z_ul_Y, z_sz_Y, z_sw_Y, iI_nat, z_ix_t, z_at, Int.add_zero, Int.sub_zero, Int.zero_add, Int.mul_zero, ne_eq, Bool.false_eq_true, Bool.true_eq_false, reduceCtorEq, eq_self, and_true, true_and, and_false, false_and, and_self, not_true_eq_false, not_false_eq_true, decide_true, decide_false, ↓reduceIte, Int.reduceEq, Int.reduceNe, Int.reduceLT, Int.reduceLE, Int.reduceAdd, Int.reduceSub, Int.reduceMul, Int.reduceNeg, Nat.reduceAdd, Nat.reduceEqDiff, Nat.reduceBEq, ↓z_x_eq, z_g_t, z_bI_s, z_bL_s, z_bR_s, z_bV_s, Int.cast_ofNat_Int, beq_self_eq_true, Bool.and_true, Bool.true_and, Bool.and_self, Bool.or_true, Bool.true_or, Bool.false_and, Bool.and_false, Bool.false_or, Bool.or_false, Bool.not_false, Bool.not_true, if_true, if_false, ite_true, ite_false, z_up_eq, z_up_app, z_ro_eq, c]

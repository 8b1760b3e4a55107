/-! THE PURE PART, 59: seated, the class's call -/
def s_air (A X M P : Int → Int) (x y b : Int) (n : Nat) (E : Int → Int) : Int := z_sum (A 1).toNat 0 (s_oth A X x y b) + z_sum n 0 (fun i => s_tb A X M P b i (E i))
theorem o_chk_all {n : Nat} : ∀ (R : List (List Nat)), o_chk n R = true → ∀ L, L ∈ R → o_okL n L = true
  | [], h, _, _ => by cases h
  | [L], h, L', m => by
    have : L' = L := by simpa using m
    rw [this]; exact (o_chk_1 h).1
  | L :: L2 :: R, h, L', m => by
    obtain ⟨c1, c2, c3, c4⟩ := o_chk_2 h
    rcases List.mem_cons.mp m with e | m'
    · rw [e]; exact c1
    · exact o_chk_all (L2 :: R) c4 L' m'
theorem s_hd_P {Hd Hd' : Int → Int} {P Q : (Int → Int) → Bool} : ∀ (R : List (List Nat)) (k : Int), (∀ L, L ∈ R → P (o_e L) = Q (o_e L)) → s_hd Hd Hd' P R k → s_hd Hd Hd' Q R k
  | [], _, _, hs => hs
  | L :: R, k, h, hs => ⟨by rw [← h L (List.mem_cons_self ..)]; exact hs.1, s_hd_P R (k + 1) (fun L' m => h L' (List.mem_cons_of_mem _ m)) hs.2⟩
def g_w (G G1 : ZG) (k : Int) : Prop := (∀ r, r ≠ 61 → r ≠ 64 → r ≠ 73 → r ≠ 74 → r ≠ 75 → G1 r = G r) ∧ 0 ≤ G1 61 5 ∧ G1 61 5 ≤ G 61 5 + k ∧ ∀ i, 0 ≤ i → i < 181 → 0 ≤ G1 64 i ∧ G1 64 i ≤ 2 * G1 61 5 + 1
theorem s_oth_in {A X : Int → Int} {x y b p : Int} (hM : m_ok A) (hp : 0 ≤ p ∧ p < A 1) : -9 ≤ s_oth A X x y b p ∧ s_oth A X x y b p ≤ 9 := by
  unfold s_oth
  split
  · omega
  · exact t_breath_in hM hp
theorem s_air_in {A X M P : Int → Int} {x y b : Int} {n : Nat} {E : Int → Int} (hM : m_ok A) (hn : n ≤ 5) (hm : ∀ i : Int, 0 ≤ i → i < n → 0 ≤ M i ∧ M i < A 1) : -1000 ≤ s_air A X M P x y b n E ∧ s_air A X M P x y b n E ≤ 1000 := by
  have h1 := hM.2.1
  have a := z_sum_le (f := s_oth A X x y b) (b := 9) (A 1).toNat 0 (fun k a c => s_oth_in hM ⟨a, by omega⟩)
  have e := z_sum_le (f := fun i => s_tb A X M P b i (E i)) (b := 9) n 0 (fun k a c => t_breath_in hM (hm k a (by omega)))
  unfold s_air
  omega
theorem p_cH (d : Nat) (T : ZT) (G G1 : ZG) (s : ZG × ZG) {n : Nat} {no x y k : Int} {L : List Nat} {R : List (List Nat)} (hQ : c_q T G) (hn : 1 ≤ n ∧ n ≤ 5) (hM : ∀ i : Int, 0 ≤ i → i < n → 0 ≤ G 71 i ∧ G 71 i < G 81 1) (hP : ∀ j : Int, 0 ≤ j → j < n → 0 ≤ G 72 j ∧ G 72 j < G 81 0) (hno : 0 ≤ no ∧ no < G 81 2) (hw : g_w G G1 k) (hk : G 61 5 + k ≤ 7200) (hchk : o_chk n (L :: R) = true) (hlen : (R.length : Int) < 120) (hid : ∀ i : Int, 0 ≤ i → i < n → o_e L i = i) : ∃ G2 s2, z_call (d + 6) 243 [vr 70, vi (iI no), vi (iI n), vi (iI x), vi (iI y)] (z_Y T G1 s) = some (vi (iI 0), z_Y T G2 s2) ∧ g_w G G2 (k + 1) ∧ s_hd (G1 75) (G2 75) (fun E => m_holds (G 81) (G 83) (G 81 6) no (s_air (G 81) (G 83) (G 71) (G 72) x y (G 81 (82 + 2 * no)) n E) (G 81 (82 + 2 * no))) (L :: R) 0 := by
  obtain ⟨w1, w2, w3, w4⟩ := hw
  have m2 := hQ.1.1.2.2.1
  have mn := mo_n hQ.1.1 no hno.1 hno.2
  have g71 := w1 71 (by omega) (by omega) (by omega) (by omega) (by omega)
  have g72 := w1 72 (by omega) (by omega) (by omega) (by omega) (by omega)
  have g81 := w1 81 (by omega) (by omega) (by omega) (by omega) (by omega)
  have g83 := w1 83 (by omega) (by omega) (by omega) (by omega) (by omega)
  have hQ1 : c_q T G1 := cq_eq hQ (fun r a => w1 r (by omega) (by omega) (by omega) (by omega) (by omega))
  have nb := (dw_n hQ1.1 no hno.1 (by rw [g81]; exact hno.2)).1
  rw [g81] at nb
  obtain ⟨s1, eo⟩ := p_oth (d + 0) T G1 s (x := x) (y := y) (b := G 81 (82 + 2 * no)) hQ1 (by omega)
  rw [g81, g83] at eo
  obtain ⟨B, s2, eb, hB⟩ := p_ch_25 (d + 1) T G1 (no := no) (b := G 81 (82 + 2 * no)) (ot := z_sum (G 81 1).toNat 0 (s_oth (G 81) (G 83) x y (G 81 (82 + 2 * no)))) hQ1 (by omega) hn.2 (by rw [g71, g81]; exact hM) (by rw [g72, g81]; exact hP) n 0 (G1 74) s1 (by omega) (by omega) ⟨fun i' j' a e => by omega, fun j' a e => by omega⟩
  rw [z_up_id] at eb
  rw [g71, g72, g81, g83] at hB
  -- asked of this note
  have ea := fun s => p_askOf (d + 4) T (z_up G1 74 B) s (n := no)
  have e61 : z_up G1 74 B 61 = G1 61 := z_up_ne _ _ (by omega)
  rw [e61] at ea
  have hv0 := v_new (G := z_up G1 74 B) (c := 601) (n := no) ⟨by rw [e61]; exact w2, by rw [e61]; omega, by rw [e61, z_up_ne _ _ (by omega)]; exact w4⟩ (by omega) (by rw [z_up_ne _ _ (by omega), g81]; exact hno)
  rw [e61, z_up_ne _ _ (show 64 ≠ 74 by omega)] at hv0
  obtain ⟨O1, ef, kf⟩ := p_fo (d + 4) T (z_up (z_up G1 74 B) 61 (z_ro (z_ro (G1 61) 5 (G1 61 5 + 1)) 6 no)) s2 (n := n) hn.2
  have hai : ∀ L', o_okL n L' = true → s_ai B n (z_sum (G 81 1).toNat 0 (s_oth (G 81) (G 83) x y (G 81 (82 + 2 * no)))) (o_e L') = s_air (G 81) (G 83) (G 71) (G 72) x y (G 81 (82 + 2 * no)) n (o_e L') := by
    intro L' hL'
    unfold s_ai s_air
    congr 1
    refine z_sum_eq _ _ (fun i a b => ?_)
    have := o_okL_in hL' i a (by omega)
    exact hB.1 i _ a (by omega) this.1 this.2
  obtain ⟨G2, s3, e3, r2, r3, r4, r5⟩ := p_ch_137 (d + 1) T (z_up (z_up (z_up G1 74 B) 61 (z_ro (z_ro (G1 61) 5 (G1 61 5 + 1)) 6 no)) 73 O1) (n := n) (no := no) (ot := z_sum (G 81 1).toNat 0 (s_oth (G 81) (G 83) x y (G 81 (82 + 2 * no)))) (cq_eq hQ1 (fun r a => by rw [z_up_ne _ _ (by omega), z_up_ne _ _ (by omega), z_up_ne _ _ (by omega)])) hn (fun L' hL' => by
    rw [z_up_ne _ _ (by omega), z_up_ne _ _ (by omega), z_up_eq, hai L' hL']
    exact s_air_in hQ.1.1 hn.2 hM) R L 0 _ s2 hchk (by omega) (by omega) (fun r a b c => rfl) (by
    rw [z_up_ne _ _ (show 64 ≠ 73 by omega), z_up_ne _ _ (show 64 ≠ 61 by omega), z_up_ne _ _ (show 64 ≠ 74 by omega)]
    exact v_ok_eq hv0 (z_up_ne _ _ (by omega)) (z_up_ne _ _ (by omega)) (z_up_ne _ _ (by omega))) (by
    rw [z_up_eq]
    exact fun i a b => (kf i a b).trans (hid i a b).symm)
  have rr : ∀ r, r ≠ 61 → r ≠ 64 → r ≠ 73 → r ≠ 74 → r ≠ 75 → G2 r = G r := fun r a b c e f => by
    rw [r2 r b c f, z_up_ne _ _ c, z_up_ne _ _ a, z_up_ne _ _ e]; exact w1 r a b c e f
  have q61 : G2 61 = z_ro (z_ro (G1 61) 5 (G1 61 5 + 1)) 6 no := by rw [r2 61 (by omega) (by omega) (by omega), z_up_ne _ _ (by omega), z_up_eq]
  have q615 : G2 61 5 = G1 61 5 + 1 := by rw [q61, z_ro_ne _ _ (by omega), z_ro_eq]
  refine ⟨G2, s3, ?_, ⟨rr, by omega, by omega, fun i a b => (r3.2.2.2 i a b).1⟩, ?_⟩
  · rw [← e3, e_Ga_countHeld]
    have nn : ((n : Int) < n) = False := eq_false (by omega)
    simp -implicitDefEqProofs (disch := first | assumption | omega | rfl | (simp only [z_up_eq, z_up_app, ↓reduceIte, Nat.reduceEqDiff]; omega)) only [z_lit0, z_lit1, z_lit2, z_litl, iI_add, iI_sub, iI_mul, iI_neg, iI_and, iI_or, iI_xor, iI_shl, iI_shr, iI_ushr, iI_div, iI_b, iI_c, iI_i2l, lI_l2i, lI_add, lI_sub, lI_mul, lI_neg, lI_div, lI_or, lI_and, lI_shl, lI_shr, nI_iI, lg_lt0, lg_gt0, lg_eq0, i_ne0', l_ne0', iI_lt, iI_le, iI_eq, lI_lt, lI_le, lI_eq, zb_0, zb_fit, zb_fit0, zb_fit1, i_one_zero, i_w_in, z_tb0, z_tb1, z_tb2, z_tb3, z_tb4, z_tb5, z_tb6, z_tb7, z_tb8, z_tbl, z_tu0, z_tu1, z_tu2, z_i_62, z_i_63, z_i_86, z_i_88, z_l_Y, z_ui_62, z_ui_63, z_ui_86, z_ui_88, z_ul_Y, z_sz_Y, z_sw_Y, iI_nat, z_ix_t, z_at, Int.add_zero, Int.sub_zero, Int.zero_add, Int.mul_zero, ne_eq, Bool.false_eq_true, Bool.true_eq_false, reduceCtorEq, eq_self, and_true, true_and, and_false, false_and, and_self, not_true_eq_false, not_false_eq_true, decide_true, decide_false, ↓reduceIte, Int.reduceEq, Int.reduceNe, Int.reduceLT, Int.reduceLE, Int.reduceAdd, Int.reduceSub, Int.reduceMul, Int.reduceNeg, Nat.reduceAdd, Nat.reduceEqDiff, Nat.reduceBEq, ↓z_x_eq, z_g_t, z_bI_s, z_bL_s, z_bR_s, z_bV_s, Int.cast_ofNat_Int, beq_self_eq_true, Bool.and_true, Bool.true_and, Bool.and_self, Bool.or_true, Bool.true_or, Bool.false_and, Bool.and_false, Bool.false_or, Bool.or_false, Bool.not_false, Bool.not_true, if_true, if_false, ite_true, ite_false, z_up_eq, z_up_app, z_ro_eq, nb, eo, eb]
    rw [e_Ga_countHeld_25]
    simp -implicitDefEqProofs (disch := first | assumption | omega | rfl | (simp only [z_up_eq, z_up_app, ↓reduceIte, Nat.reduceEqDiff]; omega)) only [z_lit0, z_lit1, z_lit2, z_litl, iI_add, iI_sub, iI_mul, iI_neg, iI_and, iI_or, iI_xor, iI_shl, iI_shr, iI_ushr, iI_div, iI_b, iI_c, iI_i2l, lI_l2i, lI_add, lI_sub, lI_mul, lI_neg, lI_div, lI_or, lI_and, lI_shl, lI_shr, nI_iI, lg_lt0, lg_gt0, lg_eq0, i_ne0', l_ne0', iI_lt, iI_le, iI_eq, lI_lt, lI_le, lI_eq, zb_0, zb_fit, zb_fit0, zb_fit1, i_one_zero, i_w_in, z_tb0, z_tb1, z_tb2, z_tb3, z_tb4, z_tb5, z_tb6, z_tb7, z_tb8, z_tbl, z_tu0, z_tu1, z_tu2, z_i_62, z_i_63, z_i_86, z_i_88, z_l_Y, z_ui_62, z_ui_63, z_ui_86, z_ui_88, z_ul_Y, z_sz_Y, z_sw_Y, iI_nat, z_ix_t, z_at, Int.add_zero, Int.sub_zero, Int.zero_add, Int.mul_zero, ne_eq, Bool.false_eq_true, Bool.true_eq_false, reduceCtorEq, eq_self, and_true, true_and, and_false, false_and, and_self, not_true_eq_false, not_false_eq_true, decide_true, decide_false, ↓reduceIte, Int.reduceEq, Int.reduceNe, Int.reduceLT, Int.reduceLE, Int.reduceAdd, Int.reduceSub, Int.reduceMul, Int.reduceNeg, Nat.reduceAdd, Nat.reduceEqDiff, Nat.reduceBEq, ↓z_x_eq, z_g_t, z_bI_s, z_bL_s, z_bR_s, z_bV_s, Int.cast_ofNat_Int, beq_self_eq_true, Bool.and_true, Bool.true_and, Bool.and_self, Bool.or_true, Bool.true_or, Bool.false_and, Bool.and_false, Bool.false_or, Bool.or_false, Bool.not_false, Bool.not_true, if_true, if_false, ite_true, ite_false, z_up_eq, z_up_app, z_ro_eq, nn, ea, ef]
  · refine s_hd_P _ _ (fun L' m => ?_) (s_hd_cg (Hd2 := z_up (z_up (z_up G1 74 B) 61 (z_ro (z_ro (G1 61) 5 (G1 61 5 + 1)) 6 no)) 73 O1 75) _ _ (fun j a => by rw [z_up_ne _ _ (by omega), z_up_ne _ _ (by omega), z_up_ne _ _ (by omega)]) r5)
    have ok := o_chk_all _ hchk L' m
    rw [z_up_ne _ _ (show 81 ≠ 73 by omega), z_up_ne _ _ (show 81 ≠ 61 by omega), z_up_ne _ _ (show 81 ≠ 74 by omega), z_up_ne _ _ (show 83 ≠ 73 by omega), z_up_ne _ _ (show 83 ≠ 61 by omega), z_up_ne _ _ (show 83 ≠ 74 by omega), z_up_ne _ _ (show 74 ≠ 73 by omega), z_up_ne _ _ (show 74 ≠ 61 by omega), z_up_eq, g81, g83, hai L' ok]
/-- what is held of each order -/
def s_hv (Hd : Int → Int) (H : List Nat → Int) : List (List Nat) → Int → Prop
  | [], k => ∀ j : Int, k ≤ j → j < 120 → Hd j = 0
  | L :: R, k => Hd k = H L ∧ s_hv Hd H R (k + 1)
theorem s_hv_add {Hd Hd' : Int → Int} {H : List Nat → Int} {P : (Int → Int) → Bool} : ∀ (R : List (List Nat)) (k : Int), s_hv Hd H R k → s_hd Hd Hd' P R k → s_hv Hd' (fun L => H L + zb (P (o_e L))) R k
  | [], _, h, hs => fun j a b => (hs j a b).trans (h j a b)
  | L :: R, k, h, hs => ⟨by rw [hs.1, h.1], s_hv_add R (k + 1) h.2 hs.2⟩
theorem s_hv_0 {Hd : Int → Int} : ∀ (R : List (List Nat)) (k : Int), 0 ≤ k → k + R.length ≤ 120 → (∀ j : Int, 0 ≤ j → j < 120 → Hd j = 0) → s_hv Hd (fun _ => 0) R k
  | [], k, h0, _, h => fun j a b => h j (by omega) b
  | L :: R, k, h0, hl, h => by
    have : ((L :: R).length : Int) = R.length + 1 := by simp
    exact ⟨h k h0 (by omega), s_hv_0 R (k + 1) (by omega) (by omega) h⟩
/-- how many hold, if they sat so -/
def s_hc (A X M P : Int → Int) (x y : Int) (n : Nat) (m : Nat) (i : Int) (L : List Nat) : Int := z_cnt m i (fun no => m_holds A X (A 6) no (s_air A X M P x y (A (82 + 2 * no)) n (o_e L)) (A (82 + 2 * no)))
theorem z_cnt_snoc {P : Int → Bool} : ∀ (n : Nat) (i : Int), z_cnt (n + 1) i P = z_cnt n i P + zb (P (i + n))
  | 0, i => by
    show zb (P i) + 0 = 0 + zb (P (i + 0))
    rw [Int.add_zero, Int.add_zero, Int.zero_add]
  | n + 1, i => by
    show zb (P i) + z_cnt (n + 1) (i + 1) P = (zb (P i) + z_cnt n (i + 1) P) + zb (P (i + ((n + 1 : Nat) : Int)))
    rw [z_cnt_snoc n (i + 1), show i + 1 + (n : Int) = i + ((n + 1 : Nat) : Int) by omega]
    omega
theorem p_bs_104 (d : Nat) (T : ZT) (G : ZG) {n : Nat} {x y p ix : Int} {L : List Nat} {R : List (List Nat)} (hQ : c_q T G) (hn : 1 ≤ n ∧ n ≤ 5) (hM : ∀ i : Int, 0 ≤ i → i < n → 0 ≤ G 71 i ∧ G 71 i < G 81 1) (hP : ∀ j : Int, 0 ≤ j → j < n → 0 ≤ G 72 j ∧ G 72 j < G 81 0) (hk : G 61 5 ≤ 7188) (hchk : o_chk n (L :: R) = true) (hlen : (R.length : Int) < 120) (hid : ∀ i : Int, 0 ≤ i → i < n → o_e L i = i) : ∀ (m k : Nat) (G1 : ZG) (s : ZG × ZG), (k : Int) + m = G 81 2 → g_w G G1 k → s_hv (G1 75) (s_hc (G 81) (G 83) (G 71) (G 72) x y n k 0) (L :: R) 0 → ∃ G2 s2, z_w d_Ga_bestSeats (z_call (d + 6)) 104 [some (vr 70), some (vi (iI x)), some (vi (iI y)), some (vi (iI p)), some (vi (iI n)), some (vi (iI ix)), some (vi (iI k)), none] [] (z_Y T G1 s) = z_w d_Ga_bestSeats (z_call (d + 6)) 138 [some (vr 70), none, none, some (vi (iI p)), some (vi (iI n)), some (vi (iI ix)), some (vi (iI 0)), some (vi (iI 1))] [] (z_Y T G2 s2) ∧ g_w G G2 (G 81 2) ∧ s_hv (G2 75) (s_hc (G 81) (G 83) (G 71) (G 72) x y n (G 81 2).toNat 0) (L :: R) 0
  | 0, k, G1, s, h, hw, hv => by
    have m2 := hQ.1.1.2.2.1
    have q2 := (dw_h hQ.1).2.2.1
    have g11 := hw.1 11 (by omega) (by omega) (by omega) (by omega) (by omega)
    have c : ((k : Int) < G 81 2) = False := eq_false (by omega)
    refine ⟨G1, s, ?_, by rw [show G 81 2 = (k : Int) by omega]; exact hw, by rw [show (G 81 2).toNat = k by omega]; exact hv⟩
    rw [e_Ga_bestSeats_104]
    simp -implicitDefEqProofs (disch := first | assumption | omega | rfl | (simp only [z_up_eq, z_up_app, ↓reduceIte, Nat.reduceEqDiff]; omega)) only [z_lit0, z_lit1, z_lit2, z_litl, iI_add, iI_sub, iI_mul, iI_neg, iI_and, iI_or, iI_xor, iI_shl, iI_shr, iI_ushr, iI_div, iI_b, iI_c, iI_i2l, lI_l2i, lI_add, lI_sub, lI_mul, lI_neg, lI_div, lI_or, lI_and, lI_shl, lI_shr, nI_iI, lg_lt0, lg_gt0, lg_eq0, i_ne0', l_ne0', iI_lt, iI_le, iI_eq, lI_lt, lI_le, lI_eq, zb_0, zb_fit, zb_fit0, zb_fit1, i_one_zero, i_w_in, z_tb0, z_tb1, z_tb2, z_tb3, z_tb4, z_tb5, z_tb6, z_tb7, z_tb8, z_tbl, z_tu0, z_tu1, z_tu2, z_i_62, z_i_63, z_i_86, z_i_88, z_l_Y, z_ui_62, z_ui_63, z_ui_86, z_ui_88, z_ul_Y, z_sz_Y, z_sw_Y, iI_nat, z_ix_t, z_at, Int.add_zero, Int.sub_zero, Int.zero_add, Int.mul_zero, ne_eq, Bool.false_eq_true, Bool.true_eq_false, reduceCtorEq, eq_self, and_true, true_and, and_false, false_and, and_self, not_true_eq_false, not_false_eq_true, decide_true, decide_false, ↓reduceIte, Int.reduceEq, Int.reduceNe, Int.reduceLT, Int.reduceLE, Int.reduceAdd, Int.reduceSub, Int.reduceMul, Int.reduceNeg, Nat.reduceAdd, Nat.reduceEqDiff, Nat.reduceBEq, ↓z_x_eq, z_g_t, z_bI_s, z_bL_s, z_bR_s, z_bV_s, Int.cast_ofNat_Int, beq_self_eq_true, Bool.and_true, Bool.true_and, Bool.and_self, Bool.or_true, Bool.true_or, Bool.false_and, Bool.and_false, Bool.false_or, Bool.or_false, Bool.not_false, Bool.not_true, if_true, if_false, ite_true, ite_false, z_up_eq, z_up_app, z_ro_eq, g11, q2, c]
  | m + 1, k, G1, s, h, hw, hv => by
    have m2 := hQ.1.1.2.2.1
    have q2 := (dw_h hQ.1).2.2.1
    have g11 := hw.1 11 (by omega) (by omega) (by omega) (by omega) (by omega)
    have c : ((k : Int) < G 81 2) = True := eq_true (by omega)
    obtain ⟨G2, s2, e2, w2, h2⟩ := p_cH d T G G1 s (no := (k : Int)) (x := x) (y := y) hQ hn hM hP ⟨by omega, by omega⟩ hw (by omega) hchk hlen hid
    have hv2 := s_hv_add _ _ hv h2
    have e : ∀ L', s_hc (G 81) (G 83) (G 71) (G 72) x y n (k + 1) 0 L' = s_hc (G 81) (G 83) (G 71) (G 72) x y n k 0 L' + zb (m_holds (G 81) (G 83) (G 81 6) k (s_air (G 81) (G 83) (G 71) (G 72) x y (G 81 (82 + 2 * k)) n (o_e L')) (G 81 (82 + 2 * k))) := fun L' => by
      unfold s_hc
      rw [z_cnt_snoc, Int.zero_add]
    rw [show (fun L' => s_hc (G 81) (G 83) (G 71) (G 72) x y n k 0 L' + zb (m_holds (G 81) (G 83) (G 81 6) k (s_air (G 81) (G 83) (G 71) (G 72) x y (G 81 (82 + 2 * k)) n (o_e L')) (G 81 (82 + 2 * k)))) = s_hc (G 81) (G 83) (G 71) (G 72) x y n (k + 1) 0 from funext (fun L' => (e L').symm)] at hv2
    obtain ⟨G3, s3, e3, w3, h3⟩ := p_bs_104 d T G (x := x) (y := y) (p := p) (ix := ix) hQ hn hM hP hk hchk hlen hid m (k + 1) G2 s2 (by omega) (by rw [show ((k + 1 : Nat) : Int) = (k : Int) + 1 by omega]; exact w2) hv2
    refine ⟨G3, s3, ?_, w3, h3⟩
    rw [← e3, e_Ga_bestSeats_104, show ((k + 1 : Nat) : Int) = (k : Int) + 1 by omega]
    simp -implicitDefEqProofs (disch := first | assumption | omega | rfl | (simp only [z_up_eq, z_up_app, ↓reduceIte, Nat.reduceEqDiff]; omega)) only [z_lit0, z_lit1, z_lit2, z_litl, iI_add, iI_sub, iI_mul, iI_neg, iI_and, iI_or, iI_xor, iI_shl, iI_shr, iI_ushr, iI_div, iI_b, iI_c, iI_i2l, lI_l2i, lI_add, lI_sub, lI_mul, lI_neg, lI_div, lI_or, lI_and, lI_shl, lI_shr, nI_iI, lg_lt0, lg_gt0, lg_eq0, i_ne0', l_ne0', iI_lt, iI_le, iI_eq, lI_lt, lI_le, lI_eq, zb_0, zb_fit, zb_fit0, zb_fit1, i_one_zero, i_w_in, z_tb0, z_tb1, z_tb2, z_tb3, z_tb4, z_tb5, z_tb6, z_tb7, z_tb8, z_tbl, z_tu0, z_tu1, z_tu2, z_i_62, z_i_63, z_i_86, z_i_88, z_l_Y, z_ui_62, z_ui_63, z_ui_86, z_ui_88, z_ul_Y, z_sz_Y, z_sw_Y, iI_nat, z_ix_t, z_at, Int.add_zero, Int.sub_zero, Int.zero_add, Int.mul_zero, ne_eq, Bool.false_eq_true, Bool.true_eq_false, reduceCtorEq, eq_self, and_true, true_and, and_false, false_and, and_self, not_true_eq_false, not_false_eq_true, decide_true, decide_false, ↓reduceIte, Int.reduceEq, Int.reduceNe, Int.reduceLT, Int.reduceLE, Int.reduceAdd, Int.reduceSub, Int.reduceMul, Int.reduceNeg, Nat.reduceAdd, Nat.reduceEqDiff, Nat.reduceBEq, ↓z_x_eq, z_g_t, z_bI_s, z_bL_s, z_bR_s, z_bV_s, Int.cast_ofNat_Int, beq_self_eq_true, Bool.and_true, Bool.true_and, Bool.and_self, Bool.or_true, Bool.true_or, Bool.false_and, Bool.and_false, Bool.false_or, Bool.or_false, Bool.not_false, Bool.not_true, if_true, if_false, ite_true, ite_false, z_up_eq, z_up_app, z_ro_eq, g11, q2, c, e2]
/-- the best order: the first of those with the most -/
def s_bs (H : List Nat → Int) : List (List Nat) → List Nat → List Nat
  | [], B => B
  | L :: R, B => if H B < H L then s_bs H R L else s_bs H R B
theorem p_bs_138 (d : Nat) (T : ZT) (G : ZG) (s : ZG × ZG) {n : Nat} {p ix : Int} {H : List Nat → Int} (hH : ∀ L, 0 ≤ H L ∧ H L ≤ 12) (tb : List (List Nat)) (htb : tb.length ≤ 120) : ∀ (R : List (List Nat)) (k : Nat) (b : Nat) (B : List Nat), tb.drop k = R → k ≤ 120 → b < k → tb[b]? = some B → G 75 b = H B → s_hv (G 75) H R k → ∃ b' : Nat, tb[b']? = some (s_bs H R B) ∧ G 75 b' = H (s_bs H R B) ∧ b' < 120 ∧ z_w d_Ga_bestSeats (z_call d) 138 [some (vr 70), none, none, some (vi (iI p)), some (vi (iI n)), some (vi (iI ix)), some (vi (iI b)), some (vi (iI k))] [] (z_Y T G s) = z_w d_Ga_bestSeats (z_call d) 138 [some (vr 70), none, none, some (vi (iI p)), some (vi (iI n)), some (vi (iI ix)), some (vi (iI b')), some (vi (iI 120))] [] (z_Y T G s) := by
  have pad : ∀ (m k : Nat) (b : Nat), k + m = 120 → b < k → 0 ≤ G 75 b → i_in (G 75 b) → (∀ j : Int, k ≤ j → j < 120 → G 75 j = 0) → z_w d_Ga_bestSeats (z_call d) 138 [some (vr 70), none, none, some (vi (iI p)), some (vi (iI n)), some (vi (iI ix)), some (vi (iI b)), some (vi (iI k))] [] (z_Y T G s) = z_w d_Ga_bestSeats (z_call d) 138 [some (vr 70), none, none, some (vi (iI p)), some (vi (iI n)), some (vi (iI ix)), some (vi (iI b)), some (vi (iI 120))] [] (z_Y T G s) := by
    intro m
    induction m with
    | zero =>
      intro k b h hb h0 hi hz
      rw [show (k : Int) = 120 by omega]
    | succ m ih =>
      intro k b h hb h0 hi hz
      have c : ((k : Int) < 120) = True := eq_true (by omega)
      have z0 := hz k (by omega) (by omega)
      have c2 : (G 75 b < 0) = False := eq_false (by omega)
      have := ih (k + 1) b (by omega) (by omega) h0 hi (fun j a e => hz j (by omega) e)
      rw [show ((k + 1 : Nat) : Int) = (k : Int) + 1 by omega] at this
      rw [← this, e_Ga_bestSeats_138]
      simp -implicitDefEqProofs (disch := first | assumption | omega | rfl | (simp only [z_up_eq, z_up_app, ↓reduceIte, Nat.reduceEqDiff]; omega)) only [z_lit0, z_lit1, z_lit2, z_litl, iI_add, iI_sub, iI_mul, iI_neg, iI_and, iI_or, iI_xor, iI_shl, iI_shr, iI_ushr, iI_div, iI_b, iI_c, iI_i2l, lI_l2i, lI_add, lI_sub, lI_mul, lI_neg, lI_div, lI_or, lI_and, lI_shl, lI_shr, nI_iI, lg_lt0, lg_gt0, lg_eq0, i_ne0', l_ne0', iI_lt, iI_le, iI_eq, lI_lt, lI_le, lI_eq, zb_0, zb_fit, zb_fit0, zb_fit1, i_one_zero, i_w_in, z_tb0, z_tb1, z_tb2, z_tb3, z_tb4, z_tb5, z_tb6, z_tb7, z_tb8, z_tbl, z_tu0, z_tu1, z_tu2, z_i_62, z_i_63, z_i_86, z_i_88, z_l_Y, z_ui_62, z_ui_63, z_ui_86, z_ui_88, z_ul_Y, z_sz_Y, z_sw_Y, iI_nat, z_ix_t, z_at, Int.add_zero, Int.sub_zero, Int.zero_add, Int.mul_zero, ne_eq, Bool.false_eq_true, Bool.true_eq_false, reduceCtorEq, eq_self, and_true, true_and, and_false, false_and, and_self, not_true_eq_false, not_false_eq_true, decide_true, decide_false, ↓reduceIte, Int.reduceEq, Int.reduceNe, Int.reduceLT, Int.reduceLE, Int.reduceAdd, Int.reduceSub, Int.reduceMul, Int.reduceNeg, Nat.reduceAdd, Nat.reduceEqDiff, Nat.reduceBEq, ↓z_x_eq, z_g_t, z_bI_s, z_bL_s, z_bR_s, z_bV_s, Int.cast_ofNat_Int, beq_self_eq_true, Bool.and_true, Bool.true_and, Bool.and_self, Bool.or_true, Bool.true_or, Bool.false_and, Bool.and_false, Bool.false_or, Bool.or_false, Bool.not_false, Bool.not_true, if_true, if_false, ite_true, ite_false, z_up_eq, z_up_app, z_ro_eq, c, z0, c2]
  intro R
  induction R with
  | nil =>
    intro k b B hd hk hb hB hG hv
    have := hH B
    exact ⟨b, hB, hG, by omega, pad (120 - k) k b (by omega) hb (by omega) ⟨by omega, by omega⟩ hv⟩
  | cons L R ih =>
    intro k b B hd hk hb hB hG hv
    obtain ⟨v1, v2⟩ := hv
    have hkl : k < tb.length := by
      have := congrArg List.length hd
      simp at this
      omega
    have hL : tb[k]? = some L := by
      have := congrArg List.head? hd
      rw [List.head?_drop] at this
      exact this
    have hd' : tb.drop (k + 1) = R := by
      have := congrArg List.tail hd
      rw [List.tail_drop] at this
      exact this
    have c : ((k : Int) < 120) = True := eq_true (by omega)
    have h1 := hH B
    have h2 := hH L
    rw [show (k : Int) + 1 = ((k + 1 : Nat) : Int) by omega] at v2
    by_cases c2 : H B < H L
    · have e : s_bs H (L :: R) B = s_bs H R L := if_pos c2
      obtain ⟨b', q1, q2, q3, q4⟩ := ih (k + 1) k L hd' (by omega) (by omega) hL v1 v2
      rw [e]
      refine ⟨b', q1, q2, q3, ?_⟩
      rw [show ((k + 1 : Nat) : Int) = (k : Int) + 1 by omega] at q4
      rw [← q4, e_Ga_bestSeats_138]
      simp -implicitDefEqProofs (disch := first | assumption | omega | rfl | (simp only [z_up_eq, z_up_app, ↓reduceIte, Nat.reduceEqDiff]; omega)) only [z_lit0, z_lit1, z_lit2, z_litl, iI_add, iI_sub, iI_mul, iI_neg, iI_and, iI_or, iI_xor, iI_shl, iI_shr, iI_ushr, iI_div, iI_b, iI_c, iI_i2l, lI_l2i, lI_add, lI_sub, lI_mul, lI_neg, lI_div, lI_or, lI_and, lI_shl, lI_shr, nI_iI, lg_lt0, lg_gt0, lg_eq0, i_ne0', l_ne0', iI_lt, iI_le, iI_eq, lI_lt, lI_le, lI_eq, zb_0, zb_fit, zb_fit0, zb_fit1, i_one_zero, i_w_in, z_tb0, z_tb1, z_tb2, z_tb3, z_tb4, z_tb5, z_tb6, z_tb7, z_tb8, z_tbl, z_tu0, z_tu1, z_tu2, z_i_62, z_i_63, z_i_86, z_i_88, z_l_Y, z_ui_62, z_ui_63, z_ui_86, z_ui_88, z_ul_Y, z_sz_Y, z_sw_Y, iI_nat, z_ix_t, z_at, Int.add_zero, Int.sub_zero, Int.zero_add, Int.mul_zero, ne_eq, Bool.false_eq_true, Bool.true_eq_false, reduceCtorEq, eq_self, and_true, true_and, and_false, false_and, and_self, not_true_eq_false, not_false_eq_true, decide_true, decide_false, ↓reduceIte, Int.reduceEq, Int.reduceNe, Int.reduceLT, Int.reduceLE, Int.reduceAdd, Int.reduceSub, Int.reduceMul, Int.reduceNeg, Nat.reduceAdd, Nat.reduceEqDiff, Nat.reduceBEq, ↓z_x_eq, z_g_t, z_bI_s, z_bL_s, z_bR_s, z_bV_s, Int.cast_ofNat_Int, beq_self_eq_true, Bool.and_true, Bool.true_and, Bool.and_self, Bool.or_true, Bool.true_or, Bool.false_and, Bool.and_false, Bool.false_or, Bool.or_false, Bool.not_false, Bool.not_true, if_true, if_false, ite_true, ite_false, z_up_eq, z_up_app, z_ro_eq, c, v1, hG, c2]
    · have e : s_bs H (L :: R) B = s_bs H R B := if_neg c2
      obtain ⟨b', q1, q2, q3, q4⟩ := ih (k + 1) b B hd' (by omega) (by omega) hB hG v2
      rw [e]
      refine ⟨b', q1, q2, q3, ?_⟩
      rw [show ((k + 1 : Nat) : Int) = (k : Int) + 1 by omega] at q4
      rw [← q4, e_Ga_bestSeats_138]
      simp -implicitDefEqProofs (disch := first | assumption | omega | rfl | (simp only [z_up_eq, z_up_app, ↓reduceIte, Nat.reduceEqDiff]; omega)) only [z_lit0, z_lit1, z_lit2, z_litl, iI_add, iI_sub, iI_mul, iI_neg, iI_and, iI_or, iI_xor, iI_shl, iI_shr, iI_ushr, iI_div, iI_b, iI_c, iI_i2l, lI_l2i, lI_add, lI_sub, lI_mul, lI_neg, lI_div, lI_or, lI_and, lI_shl, lI_shr, nI_iI, lg_lt0, lg_gt0, lg_eq0, i_ne0', l_ne0', iI_lt, iI_le, iI_eq, lI_lt, lI_le, lI_eq, zb_0, zb_fit, zb_fit0, zb_fit1, i_one_zero, i_w_in, z_tb0, z_tb1, z_tb2, z_tb3, z_tb4, z_tb5, z_tb6, z_tb7, z_tb8, z_tbl, z_tu0, z_tu1, z_tu2, z_i_62, z_i_63, z_i_86, z_i_88, z_l_Y, z_ui_62, z_ui_63, z_ui_86, z_ui_88, z_ul_Y, z_sz_Y, z_sw_Y, iI_nat, z_ix_t, z_at, Int.add_zero, Int.sub_zero, Int.zero_add, Int.mul_zero, ne_eq, Bool.false_eq_true, Bool.true_eq_false, reduceCtorEq, eq_self, and_true, true_and, and_false, false_and, and_self, not_true_eq_false, not_false_eq_true, decide_true, decide_false, ↓reduceIte, Int.reduceEq, Int.reduceNe, Int.reduceLT, Int.reduceLE, Int.reduceAdd, Int.reduceSub, Int.reduceMul, Int.reduceNeg, Nat.reduceAdd, Nat.reduceEqDiff, Nat.reduceBEq, ↓z_x_eq, z_g_t, z_bI_s, z_bL_s, z_bR_s, z_bV_s, Int.cast_ofNat_Int, beq_self_eq_true, Bool.and_true, Bool.true_and, Bool.and_self, Bool.or_true, Bool.true_or, Bool.false_and, Bool.and_false, Bool.false_or, Bool.or_false, Bool.not_false, Bool.not_true, if_true, if_false, ite_true, ite_false, z_up_eq, z_up_app, z_ro_eq, c, v1, hG, c2]
/-- the b-th order again -/
theorem p_oa_8 (d : Nat) (T : ZT) (G : ZG) (s : ZG × ZG) {n : Nat} {ix : Int} (hn : 1 ≤ n ∧ n ≤ 5) (b : Nat) (hb : b < 120) : ∀ (m k : Nat) (R : List (List Nat)) (L B : List Nat) (O : Int → Int), k + m = b → o_chk n (L :: R) = true → o_ag n O (o_e L) → (L :: R)[m]? = some B → ∃ O', z_w d_Ga_orderAt (z_call (d + 2)) 8 [some (vr 70), some (vi (iI b)), some (vi (iI n)), some (vi (iI ix)), some (vi (iI k))] [] (z_Y T (z_up G 73 O) s) = z_w d_Ga_orderAt (z_call (d + 2)) 8 [some (vr 70), some (vi (iI b)), some (vi (iI n)), some (vi (iI ix)), some (vi (iI b))] [] (z_Y T (z_up G 73 O') s) ∧ o_ag n O' (o_e B) := by
  intro m
  induction m with
  | zero =>
    intro k R L B O h hchk hO hB
    have e : (L :: R)[0]? = some L := rfl
    rw [e] at hB
    injection hB with hB
    rw [show (k : Int) = b by omega, ← hB]
    exact ⟨O, rfl, hO⟩
  | succ m ih =>
    intro k R L B O h hchk hO hB
    cases R with
    | nil => simp at hB
    | cons L' R =>
      obtain ⟨c1, c2, c3, c4⟩ := o_chk_2 hchk
      have hE := o_okL_in c1
      have c : ((k : Int) < b) = True := eq_true (by omega)
      obtain ⟨O1, en, hO1⟩ := p_nx d T (z_up G 73 O) s (n := n) (E := o_e L) hn (by rw [z_up_eq]; exact hO) (fun i a b => by have := hE i a b; exact ⟨by omega, by omega⟩)
      rw [z_up_up] at en
      have hB' : (L' :: R)[m]? = some B := by simpa using hB
      obtain ⟨O2, e2, k2⟩ := ih (k + 1) R L' B O1 (by omega) c4 (fun i a b => (hO1 i a b).trans (c3 i a b)) hB'
      refine ⟨O2, ?_, k2⟩
      rw [show ((k + 1 : Nat) : Int) = (k : Int) + 1 by omega] at e2
      rw [← e2, e_Ga_orderAt_8]
      simp -implicitDefEqProofs (disch := first | assumption | omega | rfl | (simp only [z_up_eq, z_up_app, ↓reduceIte, Nat.reduceEqDiff]; omega)) only [z_lit0, z_lit1, z_lit2, z_litl, iI_add, iI_sub, iI_mul, iI_neg, iI_and, iI_or, iI_xor, iI_shl, iI_shr, iI_ushr, iI_div, iI_b, iI_c, iI_i2l, lI_l2i, lI_add, lI_sub, lI_mul, lI_neg, lI_div, lI_or, lI_and, lI_shl, lI_shr, nI_iI, lg_lt0, lg_gt0, lg_eq0, i_ne0', l_ne0', iI_lt, iI_le, iI_eq, lI_lt, lI_le, lI_eq, zb_0, zb_fit, zb_fit0, zb_fit1, i_one_zero, i_w_in, z_tb0, z_tb1, z_tb2, z_tb3, z_tb4, z_tb5, z_tb6, z_tb7, z_tb8, z_tbl, z_tu0, z_tu1, z_tu2, z_i_62, z_i_63, z_i_86, z_i_88, z_l_Y, z_ui_62, z_ui_63, z_ui_86, z_ui_88, z_ul_Y, z_sz_Y, z_sw_Y, iI_nat, z_ix_t, z_at, Int.add_zero, Int.sub_zero, Int.zero_add, Int.mul_zero, ne_eq, Bool.false_eq_true, Bool.true_eq_false, reduceCtorEq, eq_self, and_true, true_and, and_false, false_and, and_self, not_true_eq_false, not_false_eq_true, decide_true, decide_false, ↓reduceIte, Int.reduceEq, Int.reduceNe, Int.reduceLT, Int.reduceLE, Int.reduceAdd, Int.reduceSub, Int.reduceMul, Int.reduceNeg, Nat.reduceAdd, Nat.reduceEqDiff, Nat.reduceBEq, ↓z_x_eq, z_g_t, z_bI_s, z_bL_s, z_bR_s, z_bV_s, Int.cast_ofNat_Int, beq_self_eq_true, Bool.and_true, Bool.true_and, Bool.and_self, Bool.or_true, Bool.true_or, Bool.false_and, Bool.and_false, Bool.false_or, Bool.or_false, Bool.not_false, Bool.not_true, if_true, if_false, ite_true, ite_false, z_up_eq, z_up_app, z_ro_eq, c, en]
theorem p_orderAt (d : Nat) (T : ZT) (G : ZG) (s : ZG × ZG) {n : Nat} {ix : Int} {b : Nat} {B L : List Nat} {R : List (List Nat)} (hn : 1 ≤ n ∧ n ≤ 5) (hb : b < 120) (hchk : o_chk n (L :: R) = true) (hid : ∀ i : Int, 0 ≤ i → i < n → o_e L i = i) (hB : (L :: R)[b]? = some B) (hix : 0 ≤ ix ∧ ix < n) : ∃ O', z_call (d + 3) 244 [vr 70, vi (iI b), vi (iI n), vi (iI ix)] (z_Y T G s) = some (vi (iI (o_e B ix)), z_Y T (z_up G 73 O') s) := by
  obtain ⟨O1, e1, k1⟩ := p_fo (d + 1) T G s (n := n) hn.2
  obtain ⟨O2, e2, k2⟩ := p_oa_8 d T G s (ix := ix) hn b hb b 0 R L B O1 (by omega) hchk (fun i a b => (k1 i a b).trans (hid i a b).symm) hB
  have c : ((b : Int) < b) = False := eq_false (by omega)
  have c1 : (ix < 0) = False := eq_false (by omega)
  have c2 : (ix < n) = True := eq_true (by omega)
  have eo := k2 ix hix.1 hix.2
  refine ⟨O2, ?_⟩
  rw [show ((0 : Nat) : Int) = 0 from rfl] at e2
  rw [e_Ga_orderAt]
  simp -implicitDefEqProofs (disch := first | assumption | omega | rfl | (simp only [z_up_eq, z_up_app, ↓reduceIte, Nat.reduceEqDiff]; omega)) only [z_lit0, z_lit1, z_lit2, z_litl, iI_add, iI_sub, iI_mul, iI_neg, iI_and, iI_or, iI_xor, iI_shl, iI_shr, iI_ushr, iI_div, iI_b, iI_c, iI_i2l, lI_l2i, lI_add, lI_sub, lI_mul, lI_neg, lI_div, lI_or, lI_and, lI_shl, lI_shr, nI_iI, lg_lt0, lg_gt0, lg_eq0, i_ne0', l_ne0', iI_lt, iI_le, iI_eq, lI_lt, lI_le, lI_eq, zb_0, zb_fit, zb_fit0, zb_fit1, i_one_zero, i_w_in, z_tb0, z_tb1, z_tb2, z_tb3, z_tb4, z_tb5, z_tb6, z_tb7, z_tb8, z_tbl, z_tu0, z_tu1, z_tu2, z_i_62, z_i_63, z_i_86, z_i_88, z_l_Y, z_ui_62, z_ui_63, z_ui_86, z_ui_88, z_ul_Y, z_sz_Y, z_sw_Y, iI_nat, z_ix_t, z_at, Int.add_zero, Int.sub_zero, Int.zero_add, Int.mul_zero, ne_eq, Bool.false_eq_true, Bool.true_eq_false, reduceCtorEq, eq_self, and_true, true_and, and_false, false_and, and_self, not_true_eq_false, not_false_eq_true, decide_true, decide_false, ↓reduceIte, Int.reduceEq, Int.reduceNe, Int.reduceLT, Int.reduceLE, Int.reduceAdd, Int.reduceSub, Int.reduceMul, Int.reduceNeg, Nat.reduceAdd, Nat.reduceEqDiff, Nat.reduceBEq, ↓z_x_eq, z_g_t, z_bI_s, z_bL_s, z_bR_s, z_bV_s, Int.cast_ofNat_Int, beq_self_eq_true, Bool.and_true, Bool.true_and, Bool.and_self, Bool.or_true, Bool.true_or, Bool.false_and, Bool.and_false, Bool.false_or, Bool.or_false, Bool.not_false, Bool.not_true, if_true, if_false, ite_true, ite_false, z_up_eq, z_up_app, z_ro_eq, e1, e2]
  rw [e_Ga_orderAt_8]
  simp -implicitDefEqProofs (disch := first | assumption | omega | rfl | (simp only [z_up_eq, z_up_app, ↓reduceIte, Nat.reduceEqDiff]; omega)) only [z_lit0, z_lit1, z_lit2, z_litl, iI_add, iI_sub, iI_mul, iI_neg, iI_and, iI_or, iI_xor, iI_shl, iI_shr, iI_ushr, iI_div, iI_b, iI_c, iI_i2l, lI_l2i, lI_add, lI_sub, lI_mul, lI_neg, lI_div, lI_or, lI_and, lI_shl, lI_shr, nI_iI, lg_lt0, lg_gt0, lg_eq0, i_ne0', l_ne0', iI_lt, iI_le, iI_eq, lI_lt, lI_le, lI_eq, zb_0, zb_fit, zb_fit0, zb_fit1, i_one_zero, i_w_in, z_tb0, z_tb1, z_tb2, z_tb3, z_tb4, z_tb5, z_tb6, z_tb7, z_tb8, z_tbl, z_tu0, z_tu1, z_tu2, z_i_62, z_i_63, z_i_86, z_i_88, z_l_Y, z_ui_62, z_ui_63, z_ui_86, z_ui_88, z_ul_Y, z_sz_Y, z_sw_Y, iI_nat, z_ix_t, z_at, Int.add_zero, Int.sub_zero, Int.zero_add, Int.mul_zero, ne_eq, Bool.false_eq_true, Bool.true_eq_false, reduceCtorEq, eq_self, and_true, true_and, and_false, false_and, and_self, not_true_eq_false, not_false_eq_true, decide_true, decide_false, ↓reduceIte, Int.reduceEq, Int.reduceNe, Int.reduceLT, Int.reduceLE, Int.reduceAdd, Int.reduceSub, Int.reduceMul, Int.reduceNeg, Nat.reduceAdd, Nat.reduceEqDiff, Nat.reduceBEq, ↓z_x_eq, z_g_t, z_bI_s, z_bL_s, z_bR_s, z_bV_s, Int.cast_ofNat_Int, beq_self_eq_true, Bool.and_true, Bool.true_and, Bool.and_self, Bool.or_true, Bool.true_or, Bool.false_and, Bool.and_false, Bool.false_or, Bool.or_false, Bool.not_false, Bool.not_true, if_true, if_false, ite_true, ite_false, z_up_eq, z_up_app, z_ro_eq, c, c1, c2, eo]

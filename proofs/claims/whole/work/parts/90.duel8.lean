/-! THE PURE PART, 70: a duel, the pair of calls -/
def g_D (A : Int → Int) (b1 b2 k : Int) : Int := if k < s_cn A b1 then s_li A b1 k else s_li A b2 (k - s_cn A b1)
theorem g_su_cg {A X D D' : Int → Int} {b : Int} {n : Nat} {s : Int} (h : ∀ k : Int, 0 ≤ k → k < n → D k = D' k) : g_su A X D b n s = g_su A X D' b n s := by
  unfold g_su
  exact z_sum_eq _ _ (fun k e1 e2 => by rw [h k e1 (by omega)])
theorem g_hs_cg {A X D D' : Int → Int} {n : Nat} {no : Int} (h : ∀ k : Int, 0 ≤ k → k < n → D k = D' k) : g_hs A X D n no = g_hs A X D' n no := by
  funext s
  unfold g_hs
  rw [g_su_cg h]
theorem g_su_0 {A X D : Int → Int} {b : Int} {n : Nat} (hn : n ≤ 10) : g_su A X D b n 0 = 0 := by
  unfold g_su
  rw [z_sum_eq n 0 (fun k e1 e2 => by rw [i_has_w0 ⟨e1, by omega⟩]; exact if_neg (by decide) : ∀ k, 0 ≤ k → k < 0 + (n : Int) → (if i_has 0 k = true then g_ch A X b (D k) else 0) = (fun _ => (0 : Int)) k)]
  exact z_sum_0 n 0
theorem z_sum_bd {F : Int → Int} {B : Int} (hB : 0 ≤ B) : ∀ (n : Nat) (i : Int), (∀ k, i ≤ k → k < i + n → -B ≤ F k ∧ F k ≤ B) → -(n * B) ≤ z_sum n i F ∧ z_sum n i F ≤ n * B
  | 0, i, h => by
    show -(((0 : Nat) : Int) * B) ≤ 0 ∧ (0 : Int) ≤ ((0 : Nat) : Int) * B
    rw [show ((0 : Nat) : Int) = 0 from rfl, Int.zero_mul]; omega
  | n + 1, i, h => by
    have h1 := h i (by omega) (by omega)
    have h2 := z_sum_bd hB n (i + 1) (fun k a b => h k (by omega) (by omega))
    show -(((n + 1 : Nat) : Int) * B) ≤ F i + z_sum n (i + 1) F ∧ F i + z_sum n (i + 1) F ≤ ((n + 1 : Nat) : Int) * B
    rw [show ((n + 1 : Nat) : Int) = (n : Int) + 1 by omega, Int.add_mul, Int.one_mul]
    omega
theorem g_su_in {A X D : Int → Int} {b : Int} {n : Nat} {s : Int} (hM : m_ok A) (hn : n ≤ 5) (hD : ∀ k : Int, 0 ≤ k → k < n → 0 ≤ D k ∧ D k < A 1) : -90 ≤ g_su A X D b n s ∧ g_su A X D b n s ≤ 90 := by
  have q := z_sum_bd (F := fun k => if i_has s k = true then g_ch A X b (D k) else 0) (B := 18) (by omega) n 0 (fun k e1 e2 => by
    have h1 := t_breath_in (X := X) (p := D k) (b := b) (st := A (32 + 5 * D k + 3)) (hw := 1) (us := A 8) (sa := A (32 + 5 * D k + 2)) hM (hD k e1 (by omega))
    have h2 := t_breath_in (X := X) (p := D k) (b := b) (st := A (32 + 5 * D k + 3)) (hw := A (32 + 5 * D k + 4)) (us := A 8) (sa := A (32 + 5 * D k + 2)) hM (hD k e1 (by omega))
    show -18 ≤ (if i_has s k = true then g_ch A X b (D k) else 0) ∧ (if i_has s k = true then g_ch A X b (D k) else 0) ≤ 18
    unfold g_ch
    split <;> omega)
  unfold g_su
  omega
theorem g_D_el {A : Int → Int} (hM : m_ok A) {b1 b2 : Int} (hb : b1 ≠ b2) {n : Nat} (hn : (n : Int) = s_cn A b1 + s_cn A b2) : (∀ k : Int, 0 ≤ k → k < n → 0 ≤ g_D A b1 b2 k ∧ g_D A b1 b2 k < A 1) ∧ ∀ k k' : Int, 0 ≤ k → k < k' → k' < n → g_D A b1 b2 k ≠ g_D A b1 b2 k' := by
  have e1 := s_li_el hM b1
  have e2 := s_li_el hM b2
  have c1 := s_cn_in A b1
  have c2 := s_cn_in A b2
  refine ⟨fun k a b => ?_, fun k k' a b c => ?_⟩
  · unfold g_D
    split
    · have := e1.1 k a (by omega); exact ⟨this.1, this.2.1⟩
    · have := e2.1 (k - s_cn A b1) (by omega) (by omega); exact ⟨this.1, this.2.1⟩
  · unfold g_D
    by_cases q1 : k < s_cn A b1
    · rw [if_pos q1]
      by_cases q2 : k' < s_cn A b1
      · rw [if_pos q2]
        have := e1.2 k k' a b q2; omega
      · rw [if_neg q2]
        have r1 := of_decide_eq_true (e1.1 k a q1).2.2
        have r2 := of_decide_eq_true (e2.1 (k' - s_cn A b1) (by omega) (by omega)).2.2
        intro q
        rw [q] at r1
        exact hb (r1.2.2.symm.trans r2.2.2)
    · rw [if_neg q1, if_neg (by omega)]
      have := e2.2 (k - s_cn A b1) (k' - s_cn A b1) (by omega) (by omega) (by omega); omega
/-- the answer, in the class's words -/
theorem g_an_c {hs : Int → Bool} {f g : Nat} {D : Int → Int} {y : Bool} (hf : f ≤ 5) (hg : g ≤ 5) (h0 : hs 0 = true) : g_an hs f (f + g) D y = cond y (if z_find f 0 (g_gd hs f (g_V hs f (f + g)) 0 0) = -1 then -1 else D (z_find f 0 (g_gd hs f (g_V hs f (f + g)) 0 0))) (if z_find f 0 (g_gd hs f (g_V hs f (f + g)) 0 0) = -1 then 0 else 1) := by
  have q : ∀ k : Nat, k ≤ 5 → (1 : Int) ≤ 2 ^ k ∧ (2 : Int) ^ k ≤ 32 := by decide
  have pf := q f hf
  have pg := q g hg
  have ev := g_V0 (hs := hs) hf hg (a := 0) (b := 0) ⟨by omega, by omega⟩ ⟨by omega, by omega⟩
  rw [Int.mul_zero, Int.add_zero] at ev
  unfold g_an
  rw [h0, ev, g_find_more f g 0 (fun k e1 e2 => g_gd_no0 (by omega))]
  generalize z_find f 0 (g_gd hs f (g_V hs f (f + g)) 0 0) = mv
  by_cases c : mv = -1
  · rw [c]; cases y <;> rfl
  · cases y <;> simp [c]
theorem p_findFalls (d : Nat) (T : ZT) (G : ZG) (s : ZG × ZG) {D : Int → Int} {n : Nat} {no : Int} (hQ : m_q G) (hic : G 80 24 = -1) (hno : 0 ≤ no ∧ no < G 81 2) (hn : n ≤ 10) (h37 : G 80 37 = n) (h94 : G 94 = D) (hD : ∀ k : Int, 0 ≤ k → k < n → 0 ≤ D k ∧ D k < G 81 1) (hI : ∀ k k' : Int, 0 ≤ k → k < k' → k' < n → D k ≠ D k') : ∃ H V s', z_call (d + 8) 292 [vr 80, vi (iI no)] (z_Y T G s) = some (vi (iI 0), z_Y T (z_up (z_up G 95 H) 97 V) s') ∧ ∀ q : Int, 0 ≤ q → q < 2 ^ n → V q = zb (!(g_hs (G 81) (G 83) D n no q)) := by
  have m1 := hQ.1.2.1
  have p2 := p2_le hn
  obtain ⟨H, e1, k1⟩ := p_ff_2 (d + 6) T G s (D := D) (n := n) (no := no) hn h37 h94 (fun k a b => by have := hD k a b; omega) n 0 (G 95) (by omega) (by omega) (fun j a b => by omega)
  rw [z_up_id] at e1
  have nb : ∀ r, r ≠ 95 → z_up G 95 H r = G r := fun r a => z_up_ne _ _ a
  have e95 : z_up G 95 H 95 = H := z_up_eq _ _ _
  have eH : z_up (z_up G 95 H) 81 (G 81) = z_up G 95 H := z_up_self (nb 81 (by omega)).symm
  obtain ⟨V, s', e2, k2⟩ := p_ff_35 d T (z_up G 95 H) (A := G 81) (D := D) (n := n) (no := no) (by
    rw [eH]
    unfold m_q
    rw [nb 81 (by omega), nb 83 (by omega), nb 80 (by omega)]; exact hQ) (by rw [nb 80 (by omega)]; exact hic) hno hn (by rw [nb 80 (by omega)]; exact h37) (by rw [nb 94 (by omega)]; exact h94) (by rw [e95]; exact k1) hD hI (2 ^ n) 0 (G 81) (z_up G 95 H 97) s (by omega) (by simp) ⟨fun _ _ => rfl, fun j a b => (mo_p hQ.1 (D j) (hD j a b).1 (hD j a b).2).2.2.2.2⟩ (fun q a b => by omega)
  rw [eH, z_up_id] at e2
  rw [nb 83 (by omega)] at k2
  refine ⟨H, V, s', ?_, k2⟩
  rw [e_M_findFalls]
  exact e1.trans e2
theorem p_mduel (d : Nat) (T : ZT) (G : ZG) (s : ZG × ZG) {b1 b2 no : Int} {f g : Nat} (y : Bool) (hQ : m_q G) (hic : G 80 24 = -1) (hno : 0 ≤ no ∧ no < G 81 2) (hb1 : 0 ≤ b1 ∧ b1 ≤ 3) (hb2 : 0 ≤ b2 ∧ b2 ≤ 3) (hb : b1 ≠ b2) (hf : (f : Int) = s_cn (G 81) b1) (hg : (g : Int) = s_cn (G 81) b2) : ∃ G2 s2, z_call (d + 9) 294 [vr 80, vi (iI b1), vi (iI b2), vi (iI no), vi (iI (zb y))] (z_Y T G s) = some (vi (iI (g_an (g_hs (G 81) (G 83) (g_D (G 81) b1 b2) (f + g) no) f (f + g) (g_D (G 81) b1 b2) y)), z_Y T G2 s2) ∧ (∀ r, r ≠ 80 → ¬ (94 ≤ r ∧ r ≤ 97) → G2 r = G r) ∧ ∀ k, k ≠ 36 → k ≠ 37 → G2 80 k = G 80 k := by
  have m2 := hQ.1.2.2.1
  have c1 := s_cn_in (G 81) b1
  have c2 := s_cn_in (G 81) b2
  obtain ⟨R, D, e1, q37, q36, qR, qD1, qD2⟩ := p_laySides (d + 6) T G s (b1 := b1) (b2 := b2) hQ.1 ⟨⟨by omega, by omega⟩, ⟨by omega, by omega⟩⟩
  have hDD : ∀ k : Int, 0 ≤ k → k < ((f + g : Nat) : Int) → D k = g_D (G 81) b1 b2 k := fun k a b => by
    unfold g_D
    by_cases q : k < s_cn (G 81) b1
    · rw [if_pos q]; exact qD1 k a q
    · rw [if_neg q]
      have := qD2 (k - s_cn (G 81) b1) (by omega) (by omega)
      rw [show s_cn (G 81) b1 + (k - s_cn (G 81) b1) = k by omega] at this
      exact this
  have el := g_D_el hQ.1 hb (n := f + g) (by omega)
  have nb : ∀ r, r ≠ 80 → r ≠ 94 → z_up (z_up G 80 R) 94 D r = G r := fun r a b => by rw [z_up_ne _ _ b, z_up_ne _ _ a]
  have n80 : z_up (z_up G 80 R) 94 D 80 = R := by rw [z_up_ne _ _ (by omega), z_up_eq]
  have n94 : z_up (z_up G 80 R) 94 D 94 = D := z_up_eq _ _ _
  generalize z_up (z_up G 80 R) 94 D = Ga at *
  have a81 := nb 81 (by omega) (by omega)
  have a83 := nb 83 (by omega) (by omega)
  obtain ⟨H, V, s1, e2, k2⟩ := p_findFalls d T Ga s (D := D) (n := f + g) (no := no) (by
    unfold m_q
    rw [a81, a83, n80, qR 24 (by omega) (by omega), qR 25 (by omega) (by omega)]; exact hQ) (by rw [n80, qR 24 (by omega) (by omega)]; exact hic) (by rw [a81]; exact hno) (by omega) (by rw [n80]; omega) n94 (by rw [a81]; exact fun k a b => by rw [hDD k a b]; exact el.1 k a b) (fun k k' a b c => by rw [hDD k a (by omega), hDD k' (by omega) c]; exact el.2 k k' a b c)
  rw [a81, a83, g_hs_cg hDD] at k2
  have mb : ∀ r, r ≠ 95 → r ≠ 97 → z_up (z_up Ga 95 H) 97 V r = Ga r := fun r a b => by rw [z_up_ne _ _ b, z_up_ne _ _ a]
  have m97 : z_up (z_up Ga 95 H) 97 V 97 = V := z_up_eq _ _ _
  generalize z_up (z_up Ga 95 H) 97 V = Gb at *
  have m80 := (mb 80 (by omega) (by omega)).trans n80
  have p2 := p2_le (n := f + g) (by omega)
  obtain ⟨W, e3, k3⟩ := p_du_55 (d + 6) T Gb s1 (hs := g_hs (G 81) (G 83) (g_D (G 81) b1 b2) (f + g) no) (f := f) (y := zb y) (n := f + g) (by omega) (by rw [m80]; omega) (by rw [m80]; omega) (by omega) (by rw [m97]; exact k2) (2 ^ (f + g)) (2 ^ (f + g) - 1) (Gb 96) (by simp) (by omega) (fun q t a b c => by omega)
  rw [z_up_id] at e3
  have e4 := p_du_end (d + 6) T (z_up Gb 96 W) s1 (hs := g_hs (G 81) (G 83) (g_D (G 81) b1 b2) (f + g) no) (f := f) (n := f + g) y (by omega) (by rw [z_up_ne _ _ (by omega), m80]; omega) (by omega) (by rw [z_up_ne _ _ (by omega), m97]; exact k2) (by rw [z_up_eq]; exact k3)
  have g94 : z_up Gb 96 W 94 = D := by rw [z_up_ne _ _ (by omega), mb 94 (by omega) (by omega)]; exact n94
  have ean : g_an (g_hs (G 81) (G 83) (g_D (G 81) b1 b2) (f + g) no) f (f + g) (z_up Gb 96 W 94) y = g_an (g_hs (G 81) (G 83) (g_D (G 81) b1 b2) (f + g) no) f (f + g) (g_D (G 81) b1 b2) y := by
    rw [g94]
    generalize hhs : g_hs (G 81) (G 83) (g_D (G 81) b1 b2) (f + g) no = hs
    cases h0 : hs 0
    · unfold g_an; rw [h0]; cases y <;> simp
    · rw [g_an_c (by omega) (by omega) h0, g_an_c (by omega) (by omega) h0]
      have fi := z_find_in (g_gd hs f (g_V hs f (f + g)) 0 0) f 0
      generalize z_find f 0 (g_gd hs f (g_V hs f (f + g)) 0 0) = mv at *
      by_cases c : mv = -1
      · simp only [if_pos c]
      · simp only [if_neg c, hDD mv (by omega) (by omega)]
  rw [ean] at e4
  refine ⟨z_up Gb 96 W, s1, ?_, fun r a b => ?_, fun k a b => ?_⟩
  · have bb : (b1 = b2) = False := eq_false hb
    have t1 : (0 ≤ b1 ∧ b1 ≤ 3) = True := eq_true hb1
    have t2 : (0 ≤ b2 ∧ b2 ≤ 3) = True := eq_true hb2
    have i2 := p_isNote (d + 6) T G s (x := no) ⟨⟨by omega, by omega⟩, m2⟩
    rw [show decide (0 ≤ no ∧ no ≤ G 81 2 - 1) = true from decide_eq_true (by omega)] at i2
    have es := i_shl1 (f + g) (by omega)
    have e37 : Gb 80 37 = ((f + g : Nat) : Int) := by rw [m80]; omega
    rw [e_M_duel]
    simp -implicitDefEqProofs (disch := first | assumption | omega | rfl | (simp only [z_up_eq, z_up_app, ↓reduceIte, Nat.reduceEqDiff]; omega)) only [z_lit0, z_lit1, z_lit2, z_litl, iI_add, iI_sub, iI_mul, iI_neg, iI_and, iI_or, iI_xor, iI_shl, iI_shr, iI_ushr, iI_div, iI_b, iI_c, iI_i2l, lI_l2i, lI_add, lI_sub, lI_mul, lI_neg, lI_div, lI_or, lI_and, lI_shl, lI_shr, nI_iI, lg_lt0, lg_gt0, lg_eq0, i_ne0', l_ne0', iI_lt, iI_le, iI_eq, lI_lt, lI_le, lI_eq, zb_0, zb_fit, zb_fit0, zb_fit1, i_one_zero, i_w_in, z_tb0, z_tb1, z_tb2, z_tb3, z_tb4, z_tb5, z_tb6, z_tb7, z_tb8, z_tbl, z_tu0, z_tu1, z_tu2, z_i_62, z_i_63, z_i_86, z_i_88, z_l_Y, z_ui_62, z_ui_63, z_ui_86, z_ui_88, z_ul_Y, z_sz_Y, z_sw_Y, iI_nat, z_ix_t, z_at, Int.add_zero, Int.sub_zero, Int.zero_add, Int.mul_zero, ne_eq, Bool.false_eq_true, Bool.true_eq_false, reduceCtorEq, eq_self, and_true, true_and, and_false, false_and, and_self, not_true_eq_false, not_false_eq_true, decide_true, decide_false, ↓reduceIte, Int.reduceEq, Int.reduceNe, Int.reduceLT, Int.reduceLE, Int.reduceAdd, Int.reduceSub, Int.reduceMul, Int.reduceNeg, Nat.reduceAdd, Nat.reduceEqDiff, Nat.reduceBEq, ↓z_x_eq, z_g_t, z_bI_s, z_bL_s, z_bR_s, z_bV_s, Int.cast_ofNat_Int, beq_self_eq_true, Bool.and_true, Bool.true_and, Bool.and_self, Bool.or_true, Bool.true_or, Bool.false_and, Bool.and_false, Bool.false_or, Bool.or_false, Bool.not_false, Bool.not_true, if_true, if_false, ite_true, ite_false, z_up_eq, z_up_app, z_ro_eq, p_isIn, hb1, hb2, t1, t2, zb_t, bb, i2, e1, e2, e37, es, e3, e4]
  · rw [z_up_ne _ _ (by omega), mb r (by omega) (by omega)]; exact nb r a (by omega)
  · rw [z_up_ne _ _ (by omega), m80]; exact qR k a b

/-! THE PURE PART, 64: the game; the sides; the model's side of a duel -/
def g_gd (hs : Int → Bool) (f : Int) (V : Int → Int → Bool) (s t k : Int) : Bool := !(i_has s k) && (decide (k < f) == decide (t = 0)) && hs (i_or s (i_shl 1 k)) && !(V (i_or s (i_shl 1 k)) (1 - t))
def g_v (hs : Int → Bool) (f : Int) (n : Nat) : Nat → Int → Int → Bool
  | 0, _, _ => false
  | m + 1, s, t => z_any n 0 (g_gd hs f (g_v hs f n m) s t)
def g_V (hs : Int → Bool) (f : Int) (n : Nat) (s t : Int) : Bool := g_v hs f n 1024 s t
theorem p2_le {n : Nat} (h : n ≤ 10) : (1 : Int) ≤ 2 ^ n ∧ (2 : Int) ^ n ≤ 1024 := by
  have h2 : ∀ k : Nat, k ≤ 10 → (1 : Int) ≤ 2 ^ k ∧ (2 : Int) ^ k ≤ 1024 := by decide
  exact h2 n h
theorem g_or {n : Nat} (hn : n ≤ 10) {s k : Int} (hs : 0 ≤ s ∧ s < 2 ^ n) (hk : 0 ≤ k ∧ k < n) (h : i_has s k = false) : i_or s (i_shl 1 k) = s + 2 ^ k.toNat ∧ s < s + 2 ^ k.toNat ∧ s + 2 ^ k.toNat < 2 ^ n := by
  have p2 := p2_le hn
  have e := d_b10 s.toNat (by omega) k.toNat (by omega)
  have e2 := d_up10 n (by omega) s.toNat (by
    have : ((s.toNat : Nat) : Int) < ((2 ^ n : Nat) : Int) := by rw [show ((2 ^ n : Nat) : Int) = (2 : Int) ^ n by simp]; omega
    omega) k.toNat (by omega)
  rw [show ((s.toNat : Nat) : Int) = s by omega, show ((k.toNat : Nat) : Int) = k by omega] at e e2
  have p3 := p2_le (n := k.toNat) (by omega)
  refine ⟨e h, by omega, ?_⟩
  have q := e2 h
  have : ((s.toNat + 2 ^ k.toNat : Nat) : Int) < ((2 ^ n : Nat) : Int) := by omega
  rw [show ((2 ^ n : Nat) : Int) = (2 : Int) ^ n by simp, show ((s.toNat + 2 ^ k.toNat : Nat) : Int) = s + 2 ^ k.toNat by simp; omega] at this
  exact this
theorem g_gd_eq {hs : Int → Bool} {f : Int} {V V' : Int → Int → Bool} {s t k : Int} (h : i_has s k = false → V (i_or s (i_shl 1 k)) (1 - t) = V' (i_or s (i_shl 1 k)) (1 - t)) : g_gd hs f V s t k = g_gd hs f V' s t k := by
  unfold g_gd
  cases hb : i_has s k
  · rw [h hb]
  · rfl
theorem g_v_ind (hs : Int → Bool) (f : Int) {n : Nat} (hn : n ≤ 10) : ∀ (m m' : Nat) (s t : Int), (0 ≤ s ∧ s < 2 ^ n) → 2 ^ n - s ≤ m → 2 ^ n - s ≤ m' → g_v hs f n m s t = g_v hs f n m' s t
  | 0, m', s, t, h, h1, h2 => by omega
  | m + 1, 0, s, t, h, h1, h2 => by omega
  | m + 1, m' + 1, s, t, h, h1, h2 => by
    show z_any n 0 (g_gd hs f (g_v hs f n m) s t) = z_any n 0 (g_gd hs f (g_v hs f n m') s t)
    refine z_any_eq _ _ (fun k a b => g_gd_eq (fun hb => ?_))
    obtain ⟨e, e1, e2⟩ := g_or hn h ⟨a, by omega⟩ hb
    rw [e]
    exact g_v_ind hs f hn m m' _ _ ⟨by omega, e2⟩ (by omega) (by omega)
theorem g_V_eq (hs : Int → Bool) (f : Int) {n : Nat} (hn : n ≤ 10) {s t : Int} (h : 0 ≤ s ∧ s < 2 ^ n) : g_V hs f n s t = z_any n 0 (g_gd hs f (g_V hs f n) s t) := by
  have p2 := p2_le hn
  show z_any n 0 (g_gd hs f (g_v hs f n 1023) s t) = _
  refine z_any_eq _ _ (fun k a b => g_gd_eq (fun hb => ?_))
  obtain ⟨e, e1, e2⟩ := g_or hn h ⟨a, by omega⟩ hb
  rw [e]
  exact g_v_ind hs f hn 1023 1024 _ _ ⟨by omega, e2⟩ (by omega) (by omega)
/-- who is chosen, five at most, laid from o on -/
def s_ly (P : Int → Bool) (o : Int) : Nat → Int → Int → (Int → Int) → Int × (Int → Int)
  | 0, _, c, W => (c, W)
  | m + 1, i, c, W => cond (P i && decide (c < 5)) (s_ly P o m (i + 1) (c + 1) (z_ro W (o + c) i)) (s_ly P o m (i + 1) c W)
/-- the same as a count and a list -/
theorem s_ly_c (P : Int → Bool) (o o' : Int) : ∀ (m : Nat) (i c : Int) (W W' : Int → Int), (s_ly P o m i c W).1 = (s_ly P o' m i c W').1
  | 0, _, _, _, _ => rfl
  | m + 1, i, c, W, W' => by
    show (cond (P i && decide (c < 5)) _ _ : Int × (Int → Int)).1 = (cond (P i && decide (c < 5)) _ _ : Int × (Int → Int)).1
    cases P i && decide (c < 5)
    · exact s_ly_c P o o' m (i + 1) c W W'
    · exact s_ly_c P o o' m (i + 1) (c + 1) _ _
theorem s_ly_in (P : Int → Bool) (o : Int) : ∀ (m : Nat) (i c : Int) (W : Int → Int), c ≤ 5 → c ≤ (s_ly P o m i c W).1 ∧ (s_ly P o m i c W).1 ≤ 5 ∧ (s_ly P o m i c W).1 ≤ c + m
  | 0, _, c, _, h => ⟨Int.le_refl _, h, by show c ≤ c + 0; omega⟩
  | m + 1, i, c, W, h => by
    show c ≤ (cond (P i && decide (c < 5)) _ _ : Int × (Int → Int)).1 ∧ (cond (P i && decide (c < 5)) _ _ : Int × (Int → Int)).1 ≤ 5 ∧ (cond (P i && decide (c < 5)) _ _ : Int × (Int → Int)).1 ≤ c + ((m + 1 : Nat) : Int)
    cases hb : P i && decide (c < 5)
    · have := s_ly_in P o m (i + 1) c W h
      exact ⟨this.1, this.2.1, by have := this.2.2; show (s_ly P o m (i + 1) c W).1 ≤ _; omega⟩
    · have hc : c < 5 := by
        have := (Bool.and_eq_true _ _ ▸ hb : P i = true ∧ decide (c < 5) = true)
        exact of_decide_eq_true this.2
      have := s_ly_in P o m (i + 1) (c + 1) (z_ro W (o + c) i) (by omega)
      exact ⟨by have := this.1; show c ≤ (s_ly P o m (i + 1) (c + 1) (z_ro W (o + c) i)).1; omega, this.2.1, by have := this.2.2; show (s_ly P o m (i + 1) (c + 1) (z_ro W (o + c) i)).1 ≤ _; omega⟩
/-- rows behind it: untouched elsewhere; the same list wherever it is laid -/
theorem s_ly_ne (P : Int → Bool) (o : Int) : ∀ (m : Nat) (i c : Int) (W : Int → Int) (k : Int), k < o + c → (s_ly P o m i c W).2 k = W k
  | 0, _, _, _, _, _ => rfl
  | m + 1, i, c, W, k, h => by
    show (cond (P i && decide (c < 5)) _ _ : Int × (Int → Int)).2 k = W k
    cases P i && decide (c < 5)
    · exact s_ly_ne P o m (i + 1) c W k h
    · show (s_ly P o m (i + 1) (c + 1) (z_ro W (o + c) i)).2 k = W k
      rw [s_ly_ne P o m (i + 1) (c + 1) _ k (by omega), z_ro_ne _ _ (by omega)]
theorem s_ly_ag (P : Int → Bool) (o o' : Int) : ∀ (m : Nat) (i c : Int) (W W' : Int → Int), (∀ k, 0 ≤ k → k < c → W (o + k) = W' (o' + k)) → ∀ k, 0 ≤ k → k < (s_ly P o m i c W).1 → (s_ly P o m i c W).2 (o + k) = (s_ly P o' m i c W').2 (o' + k)
  | 0, _, c, _, _, h, k, a, b => h k a b
  | m + 1, i, c, W, W', h, k, a, b => by
    have e : s_ly P o (m + 1) i c W = cond (P i && decide (c < 5)) (s_ly P o m (i + 1) (c + 1) (z_ro W (o + c) i)) (s_ly P o m (i + 1) c W) := rfl
    have e' : s_ly P o' (m + 1) i c W' = cond (P i && decide (c < 5)) (s_ly P o' m (i + 1) (c + 1) (z_ro W' (o' + c) i)) (s_ly P o' m (i + 1) c W') := rfl
    rw [e] at b ⊢
    rw [e']
    cases hb : P i && decide (c < 5)
    · rw [hb] at b
      exact s_ly_ag P o o' m (i + 1) c W W' h k a b
    · rw [hb] at b
      refine s_ly_ag P o o' m (i + 1) (c + 1) _ _ (fun k' a' b' => ?_) k a b
      by_cases q : k' = c
      · rw [q, z_ro_eq, z_ro_eq]
      · rw [z_ro_ne _ _ (by omega), z_ro_ne _ _ (by omega)]; exact h k' a' (by omega)
theorem s_ly_el (P : Int → Bool) (o : Int) : ∀ (m : Nat) (i c : Int) (W : Int → Int), (∀ k, 0 ≤ k → k < c → 0 ≤ W (o + k) ∧ W (o + k) < i ∧ P (W (o + k)) = true) → (∀ k k', 0 ≤ k → k < k' → k' < c → W (o + k) < W (o + k')) → 0 ≤ i → 0 ≤ c → (∀ k, 0 ≤ k → k < (s_ly P o m i c W).1 → 0 ≤ (s_ly P o m i c W).2 (o + k) ∧ (s_ly P o m i c W).2 (o + k) < i + m ∧ P ((s_ly P o m i c W).2 (o + k)) = true) ∧ ∀ k k', 0 ≤ k → k < k' → k' < (s_ly P o m i c W).1 → (s_ly P o m i c W).2 (o + k) < (s_ly P o m i c W).2 (o + k')
  | 0, i, c, W, h1, h2, hi, hc => ⟨fun k a b => by have := h1 k a b; exact ⟨this.1, by have := this.2.1; show W (o + k) < i + 0; omega, this.2.2⟩, fun k k' a b e => h2 k k' a b e⟩
  | m + 1, i, c, W, h1, h2, hi, hc => by
    have e : s_ly P o (m + 1) i c W = cond (P i && decide (c < 5)) (s_ly P o m (i + 1) (c + 1) (z_ro W (o + c) i)) (s_ly P o m (i + 1) c W) := rfl
    rw [e]
    cases hb : P i && decide (c < 5)
    · have := s_ly_el P o m (i + 1) c W (fun k a b => by have := h1 k a b; exact ⟨this.1, by omega, this.2.2⟩) h2 (by omega) hc
      refine ⟨fun k a b => ?_, this.2⟩
      have q := this.1 k a b
      exact ⟨q.1, by have := q.2.1; show (s_ly P o m (i + 1) c W).2 (o + k) < _; omega, q.2.2⟩
    · have hP : P i = true := (Bool.and_eq_true _ _ ▸ hb : P i = true ∧ decide (c < 5) = true).1
      have := s_ly_el P o m (i + 1) (c + 1) (z_ro W (o + c) i) (fun k a b => by
        by_cases q : k = c
        · rw [q, z_ro_eq]; exact ⟨hi, by omega, hP⟩
        · rw [z_ro_ne _ _ (by omega)]; have := h1 k a (by omega); exact ⟨this.1, by omega, this.2.2⟩) (fun k k' a b e => by
        rw [z_ro_ne _ _ (show o + k ≠ o + c by omega)]
        by_cases q : k' = c
        · rw [q, z_ro_eq]; exact (h1 k a (by omega)).2.1
        · rw [z_ro_ne _ _ (by omega)]; exact h2 k k' a b (by omega)) (by omega) (by omega)
      refine ⟨fun k a b => ?_, this.2⟩
      have q := this.1 k a b
      exact ⟨q.1, by have := q.2.1; show (s_ly P o m (i + 1) (c + 1) (z_ro W (o + c) i)).2 (o + k) < _; omega, q.2.2⟩
/-- who is on a side -/
def s_sd (A : Int → Int) (bl p : Int) : Bool := decide (A (32 + 5 * p + 3) ≠ -1 ∧ A (32 + 5 * p + 4) ≠ 1 ∧ A (12 + 2 * A (32 + 5 * p + 3)) = bl)
theorem p_ls_18 (d : Nat) (T : ZT) (G : ZG) (s : ZG × ZG) {b1 b2 t : Int} (hM : m_ok (G 81)) (hb : i_in b1 ∧ i_in b2) (ht : t = 0 ∨ t = 1) {o : Int} (ho : 0 ≤ o ∧ o ≤ 5) : ∀ (m : Nat) (p c : Int) (W : Int → Int), 0 ≤ p → p + m = G 81 1 → 0 ≤ c → c ≤ 5 → z_w d_M_laySides (z_call (d + 1)) 18 [some (vr 80), some (vi (iI b1)), some (vi (iI b2)), some (vi (iI t)), some (vi (iI c)), some (vi (iI p))] [] (z_Y T (z_up (z_up G 80 (z_ro (G 80) 37 (o + c))) 94 W) s) = z_w d_M_laySides (z_call (d + 1)) 7 [some (vr 80), some (vi (iI b1)), some (vi (iI b2)), some (vi (iI (t + 1))), none, none] [] (z_Y T (z_up (z_up G 80 (if t = 0 then z_ro (z_ro (G 80) 37 (o + (s_ly (s_sd (G 81) (if t = 0 then b1 else b2)) o m p c W).1)) 36 (s_ly (s_sd (G 81) (if t = 0 then b1 else b2)) o m p c W).1 else z_ro (G 80) 37 (o + (s_ly (s_sd (G 81) (if t = 0 then b1 else b2)) o m p c W).1))) 94 (s_ly (s_sd (G 81) (if t = 0 then b1 else b2)) o m p c W).2) s)
  | 0, p, c, W, h0, h, hc, hc5 => by
    have m1 := hM.2.1
    have cc : (p < G 81 1) = False := eq_false (by omega)
    rw [e_M_laySides_18]
    rcases ht with rfl | rfl
    · simp -implicitDefEqProofs (disch := first | assumption | omega | rfl | (simp only [z_up_eq, z_up_app, ↓reduceIte, Nat.reduceEqDiff]; omega)) only [z_lit0, z_lit1, z_lit2, z_litl, iI_add, iI_sub, iI_mul, iI_neg, iI_and, iI_or, iI_xor, iI_shl, iI_shr, iI_ushr, iI_div, iI_b, iI_c, iI_i2l, lI_l2i, lI_add, lI_sub, lI_mul, lI_neg, lI_div, lI_or, lI_and, lI_shl, lI_shr, nI_iI, lg_lt0, lg_gt0, lg_eq0, i_ne0', l_ne0', iI_lt, iI_le, iI_eq, lI_lt, lI_le, lI_eq, zb_0, zb_fit, zb_fit0, zb_fit1, i_one_zero, i_w_in, z_tb0, z_tb1, z_tb2, z_tb3, z_tb4, z_tb5, z_tb6, z_tb7, z_tb8, z_tbl, z_tu0, z_tu1, z_tu2, z_i_62, z_i_63, z_i_86, z_i_88, z_l_Y, z_ui_62, z_ui_63, z_ui_86, z_ui_88, z_ul_Y, z_sz_Y, z_sw_Y, iI_nat, z_ix_t, z_at, Int.add_zero, Int.sub_zero, Int.zero_add, Int.mul_zero, ne_eq, Bool.false_eq_true, Bool.true_eq_false, reduceCtorEq, eq_self, and_true, true_and, and_false, false_and, and_self, not_true_eq_false, not_false_eq_true, decide_true, decide_false, ↓reduceIte, Int.reduceEq, Int.reduceNe, Int.reduceLT, Int.reduceLE, Int.reduceAdd, Int.reduceSub, Int.reduceMul, Int.reduceNeg, Nat.reduceAdd, Nat.reduceEqDiff, Nat.reduceBEq, ↓z_x_eq, z_g_t, z_bI_s, z_bL_s, z_bR_s, z_bV_s, Int.cast_ofNat_Int, beq_self_eq_true, Bool.and_true, Bool.true_and, Bool.and_self, Bool.or_true, Bool.true_or, Bool.false_and, Bool.and_false, Bool.false_or, Bool.or_false, Bool.not_false, Bool.not_true, if_true, if_false, ite_true, ite_false, z_up_eq, z_up_app, z_ro_eq, cc, z_up_up, z_up_cm]
      rfl
    · simp -implicitDefEqProofs (disch := first | assumption | omega | rfl | (simp only [z_up_eq, z_up_app, ↓reduceIte, Nat.reduceEqDiff]; omega)) only [z_lit0, z_lit1, z_lit2, z_litl, iI_add, iI_sub, iI_mul, iI_neg, iI_and, iI_or, iI_xor, iI_shl, iI_shr, iI_ushr, iI_div, iI_b, iI_c, iI_i2l, lI_l2i, lI_add, lI_sub, lI_mul, lI_neg, lI_div, lI_or, lI_and, lI_shl, lI_shr, nI_iI, lg_lt0, lg_gt0, lg_eq0, i_ne0', l_ne0', iI_lt, iI_le, iI_eq, lI_lt, lI_le, lI_eq, zb_0, zb_fit, zb_fit0, zb_fit1, i_one_zero, i_w_in, z_tb0, z_tb1, z_tb2, z_tb3, z_tb4, z_tb5, z_tb6, z_tb7, z_tb8, z_tbl, z_tu0, z_tu1, z_tu2, z_i_62, z_i_63, z_i_86, z_i_88, z_l_Y, z_ui_62, z_ui_63, z_ui_86, z_ui_88, z_ul_Y, z_sz_Y, z_sw_Y, iI_nat, z_ix_t, z_at, Int.add_zero, Int.sub_zero, Int.zero_add, Int.mul_zero, ne_eq, Bool.false_eq_true, Bool.true_eq_false, reduceCtorEq, eq_self, and_true, true_and, and_false, false_and, and_self, not_true_eq_false, not_false_eq_true, decide_true, decide_false, ↓reduceIte, Int.reduceEq, Int.reduceNe, Int.reduceLT, Int.reduceLE, Int.reduceAdd, Int.reduceSub, Int.reduceMul, Int.reduceNeg, Nat.reduceAdd, Nat.reduceEqDiff, Nat.reduceBEq, ↓z_x_eq, z_g_t, z_bI_s, z_bL_s, z_bR_s, z_bV_s, Int.cast_ofNat_Int, beq_self_eq_true, Bool.and_true, Bool.true_and, Bool.and_self, Bool.or_true, Bool.true_or, Bool.false_and, Bool.and_false, Bool.false_or, Bool.or_false, Bool.not_false, Bool.not_true, if_true, if_false, ite_true, ite_false, z_up_eq, z_up_app, z_ro_eq, cc]
      rfl
  | m + 1, p, c, W, h0, h, hc, hc5 => by
    have m1 := hM.2.1
    have m0 := hM.1
    have cc : (p < G 81 1) = True := eq_true (by omega)
    have mp := mo_p hM p h0 (by omega)
    have e : ∀ P, s_ly P o (m + 1) p c W = cond (P p && decide (c < 5)) (s_ly P o m (p + 1) (c + 1) (z_ro W (o + c) p)) (s_ly P o m (p + 1) c W) := fun P => rfl
    have ih0 := p_ls_18 d T G s hM hb ht ho m (p + 1) c W (by omega) (by omega) hc hc5
    have gt := fun w h s => p_get d T (z_up (z_up G 80 (z_ro (G 80) 37 (o + c))) 94 W) s (p := p) (w := w) h
    have g81 : z_up (z_up G 80 (z_ro (G 80) 37 (o + c))) 94 W 81 = G 81 := by rw [z_up_ne _ _ (by omega), z_up_ne _ _ (by omega)]
    rw [g81] at gt
    have gt3 := fun s => gt 3 (by omega) s
    have gt4 := fun s => gt 4 (by omega) s
    rw [e]
    by_cases c1 : G 81 (32 + 5 * p + 3) = -1
    · have hP : s_sd (G 81) (if t = 0 then b1 else b2) p = false := decide_eq_false (fun q => q.1 c1)
      rw [hP, Bool.false_and]
      show _ = z_w d_M_laySides (z_call (d + 1)) 7 [some (vr 80), some (vi (iI b1)), some (vi (iI b2)), some (vi (iI (t + 1))), none, none] [] (z_Y T (z_up (z_up G 80 (if t = 0 then z_ro (z_ro (G 80) 37 (o + (s_ly (s_sd (G 81) (if t = 0 then b1 else b2)) o m (p + 1) c W).1)) 36 (s_ly (s_sd (G 81) (if t = 0 then b1 else b2)) o m (p + 1) c W).1 else z_ro (G 80) 37 (o + (s_ly (s_sd (G 81) (if t = 0 then b1 else b2)) o m (p + 1) c W).1))) 94 (s_ly (s_sd (G 81) (if t = 0 then b1 else b2)) o m (p + 1) c W).2) s)
      rw [← ih0, e_M_laySides_18]
      simp -implicitDefEqProofs (disch := first | assumption | omega | rfl | (simp only [z_up_eq, z_up_app, ↓reduceIte, Nat.reduceEqDiff]; omega)) only [z_lit0, z_lit1, z_lit2, z_litl, iI_add, iI_sub, iI_mul, iI_neg, iI_and, iI_or, iI_xor, iI_shl, iI_shr, iI_ushr, iI_div, iI_b, iI_c, iI_i2l, lI_l2i, lI_add, lI_sub, lI_mul, lI_neg, lI_div, lI_or, lI_and, lI_shl, lI_shr, nI_iI, lg_lt0, lg_gt0, lg_eq0, i_ne0', l_ne0', iI_lt, iI_le, iI_eq, lI_lt, lI_le, lI_eq, zb_0, zb_fit, zb_fit0, zb_fit1, i_one_zero, i_w_in, z_tb0, z_tb1, z_tb2, z_tb3, z_tb4, z_tb5, z_tb6, z_tb7, z_tb8, z_tbl, z_tu0, z_tu1, z_tu2, z_i_62, z_i_63, z_i_86, z_i_88, z_l_Y, z_ui_62, z_ui_63, z_ui_86, z_ui_88, z_ul_Y, z_sz_Y, z_sw_Y, iI_nat, z_ix_t, z_at, Int.add_zero, Int.sub_zero, Int.zero_add, Int.mul_zero, ne_eq, Bool.false_eq_true, Bool.true_eq_false, reduceCtorEq, eq_self, and_true, true_and, and_false, false_and, and_self, not_true_eq_false, not_false_eq_true, decide_true, decide_false, ↓reduceIte, Int.reduceEq, Int.reduceNe, Int.reduceLT, Int.reduceLE, Int.reduceAdd, Int.reduceSub, Int.reduceMul, Int.reduceNeg, Nat.reduceAdd, Nat.reduceEqDiff, Nat.reduceBEq, ↓z_x_eq, z_g_t, z_bI_s, z_bL_s, z_bR_s, z_bV_s, Int.cast_ofNat_Int, beq_self_eq_true, Bool.and_true, Bool.true_and, Bool.and_self, Bool.or_true, Bool.true_or, Bool.false_and, Bool.and_false, Bool.false_or, Bool.or_false, Bool.not_false, Bool.not_true, if_true, if_false, ite_true, ite_false, z_up_eq, z_up_app, z_ro_eq, cc, gt3, c1]
    · by_cases c2 : G 81 (32 + 5 * p + 4) = 1
      · have hP : s_sd (G 81) (if t = 0 then b1 else b2) p = false := decide_eq_false (fun q => q.2.1 c2)
        rw [hP, Bool.false_and]
        show _ = z_w d_M_laySides (z_call (d + 1)) 7 [some (vr 80), some (vi (iI b1)), some (vi (iI b2)), some (vi (iI (t + 1))), none, none] [] (z_Y T (z_up (z_up G 80 (if t = 0 then z_ro (z_ro (G 80) 37 (o + (s_ly (s_sd (G 81) (if t = 0 then b1 else b2)) o m (p + 1) c W).1)) 36 (s_ly (s_sd (G 81) (if t = 0 then b1 else b2)) o m (p + 1) c W).1 else z_ro (G 80) 37 (o + (s_ly (s_sd (G 81) (if t = 0 then b1 else b2)) o m (p + 1) c W).1))) 94 (s_ly (s_sd (G 81) (if t = 0 then b1 else b2)) o m (p + 1) c W).2) s)
        rw [← ih0, e_M_laySides_18]
        simp -implicitDefEqProofs (disch := first | assumption | omega | rfl | (simp only [z_up_eq, z_up_app, ↓reduceIte, Nat.reduceEqDiff]; omega)) only [z_lit0, z_lit1, z_lit2, z_litl, iI_add, iI_sub, iI_mul, iI_neg, iI_and, iI_or, iI_xor, iI_shl, iI_shr, iI_ushr, iI_div, iI_b, iI_c, iI_i2l, lI_l2i, lI_add, lI_sub, lI_mul, lI_neg, lI_div, lI_or, lI_and, lI_shl, lI_shr, nI_iI, lg_lt0, lg_gt0, lg_eq0, i_ne0', l_ne0', iI_lt, iI_le, iI_eq, lI_lt, lI_le, lI_eq, zb_0, zb_fit, zb_fit0, zb_fit1, i_one_zero, i_w_in, z_tb0, z_tb1, z_tb2, z_tb3, z_tb4, z_tb5, z_tb6, z_tb7, z_tb8, z_tbl, z_tu0, z_tu1, z_tu2, z_i_62, z_i_63, z_i_86, z_i_88, z_l_Y, z_ui_62, z_ui_63, z_ui_86, z_ui_88, z_ul_Y, z_sz_Y, z_sw_Y, iI_nat, z_ix_t, z_at, Int.add_zero, Int.sub_zero, Int.zero_add, Int.mul_zero, ne_eq, Bool.false_eq_true, Bool.true_eq_false, reduceCtorEq, eq_self, and_true, true_and, and_false, false_and, and_self, not_true_eq_false, not_false_eq_true, decide_true, decide_false, ↓reduceIte, Int.reduceEq, Int.reduceNe, Int.reduceLT, Int.reduceLE, Int.reduceAdd, Int.reduceSub, Int.reduceMul, Int.reduceNeg, Nat.reduceAdd, Nat.reduceEqDiff, Nat.reduceBEq, ↓z_x_eq, z_g_t, z_bI_s, z_bL_s, z_bR_s, z_bV_s, Int.cast_ofNat_Int, beq_self_eq_true, Bool.and_true, Bool.true_and, Bool.and_self, Bool.or_true, Bool.true_or, Bool.false_and, Bool.and_false, Bool.false_or, Bool.or_false, Bool.not_false, Bool.not_true, if_true, if_false, ite_true, ite_false, z_up_eq, z_up_app, z_ro_eq, cc, gt3, c1, gt4, c2]
      · have msx := mo_s hM (G 81 (32 + 5 * p + 3)) (by omega) (by omega)
        have so := fun s => p_seatOf d T (z_up (z_up G 80 (z_ro (G 80) 37 (o + c))) 94 W) s (p := G 81 (32 + 5 * p + 3)) (w := 0) (by omega)
        rw [g81, Int.add_zero] at so
        by_cases c5 : c = 5
        · rw [decide_eq_false (show ¬ c < 5 by omega), Bool.and_false]
          show _ = z_w d_M_laySides (z_call (d + 1)) 7 [some (vr 80), some (vi (iI b1)), some (vi (iI b2)), some (vi (iI (t + 1))), none, none] [] (z_Y T (z_up (z_up G 80 (if t = 0 then z_ro (z_ro (G 80) 37 (o + (s_ly (s_sd (G 81) (if t = 0 then b1 else b2)) o m (p + 1) c W).1)) 36 (s_ly (s_sd (G 81) (if t = 0 then b1 else b2)) o m (p + 1) c W).1 else z_ro (G 80) 37 (o + (s_ly (s_sd (G 81) (if t = 0 then b1 else b2)) o m (p + 1) c W).1))) 94 (s_ly (s_sd (G 81) (if t = 0 then b1 else b2)) o m (p + 1) c W).2) s)
          rw [← ih0, e_M_laySides_18]
          have c5' : (c = 5) = True := eq_true c5
          simp -implicitDefEqProofs (disch := first | assumption | omega | rfl | (simp only [z_up_eq, z_up_app, ↓reduceIte, Nat.reduceEqDiff]; omega)) only [z_lit0, z_lit1, z_lit2, z_litl, iI_add, iI_sub, iI_mul, iI_neg, iI_and, iI_or, iI_xor, iI_shl, iI_shr, iI_ushr, iI_div, iI_b, iI_c, iI_i2l, lI_l2i, lI_add, lI_sub, lI_mul, lI_neg, lI_div, lI_or, lI_and, lI_shl, lI_shr, nI_iI, lg_lt0, lg_gt0, lg_eq0, i_ne0', l_ne0', iI_lt, iI_le, iI_eq, lI_lt, lI_le, lI_eq, zb_0, zb_fit, zb_fit0, zb_fit1, i_one_zero, i_w_in, z_tb0, z_tb1, z_tb2, z_tb3, z_tb4, z_tb5, z_tb6, z_tb7, z_tb8, z_tbl, z_tu0, z_tu1, z_tu2, z_i_62, z_i_63, z_i_86, z_i_88, z_l_Y, z_ui_62, z_ui_63, z_ui_86, z_ui_88, z_ul_Y, z_sz_Y, z_sw_Y, iI_nat, z_ix_t, z_at, Int.add_zero, Int.sub_zero, Int.zero_add, Int.mul_zero, ne_eq, Bool.false_eq_true, Bool.true_eq_false, reduceCtorEq, eq_self, and_true, true_and, and_false, false_and, and_self, not_true_eq_false, not_false_eq_true, decide_true, decide_false, ↓reduceIte, Int.reduceEq, Int.reduceNe, Int.reduceLT, Int.reduceLE, Int.reduceAdd, Int.reduceSub, Int.reduceMul, Int.reduceNeg, Nat.reduceAdd, Nat.reduceEqDiff, Nat.reduceBEq, ↓z_x_eq, z_g_t, z_bI_s, z_bL_s, z_bR_s, z_bV_s, Int.cast_ofNat_Int, beq_self_eq_true, Bool.and_true, Bool.true_and, Bool.and_self, Bool.or_true, Bool.true_or, Bool.false_and, Bool.and_false, Bool.false_or, Bool.or_false, Bool.not_false, Bool.not_true, if_true, if_false, ite_true, ite_false, z_up_eq, z_up_app, z_ro_eq, cc, gt3, c1, gt4, c2, c5']
        · have c5' : (c = 5) = False := eq_false c5
          rw [decide_eq_true (show c < 5 by omega), Bool.and_true]
          have ih1 := p_ls_18 d T G s hM hb ht ho m (p + 1) (c + 1) (z_ro W (o + c) p) (by omega) (by omega) (by omega) (by omega)
          rw [← Int.add_assoc] at ih1
          rcases ht with rfl | rfl
          · rw [show (if (0 : Int) = 0 then b1 else b2) = b1 from if_pos rfl] at ih0 ih1 ⊢
            by_cases c3 : G 81 (12 + 2 * G 81 (32 + 5 * p + 3)) = b1
            · have c3' : (G 81 (12 + 2 * G 81 (32 + 5 * p + 3)) = b1) = True := eq_true c3
              have hP : s_sd (G 81) b1 p = true := decide_eq_true ⟨c1, c2, c3⟩
              rw [hP]
              refine Eq.trans ?_ ih1
              rw [e_M_laySides_18]
              simp -implicitDefEqProofs (disch := first | assumption | omega | rfl | (simp only [z_up_eq, z_up_app, ↓reduceIte, Nat.reduceEqDiff]; omega)) only [z_lit0, z_lit1, z_lit2, z_litl, iI_add, iI_sub, iI_mul, iI_neg, iI_and, iI_or, iI_xor, iI_shl, iI_shr, iI_ushr, iI_div, iI_b, iI_c, iI_i2l, lI_l2i, lI_add, lI_sub, lI_mul, lI_neg, lI_div, lI_or, lI_and, lI_shl, lI_shr, nI_iI, lg_lt0, lg_gt0, lg_eq0, i_ne0', l_ne0', iI_lt, iI_le, iI_eq, lI_lt, lI_le, lI_eq, zb_0, zb_fit, zb_fit0, zb_fit1, i_one_zero, i_w_in, z_tb0, z_tb1, z_tb2, z_tb3, z_tb4, z_tb5, z_tb6, z_tb7, z_tb8, z_tbl, z_tu0, z_tu1, z_tu2, z_i_62, z_i_63, z_i_86, z_i_88, z_l_Y, z_ui_62, z_ui_63, z_ui_86, z_ui_88, z_ul_Y, z_sz_Y, z_sw_Y, iI_nat, z_ix_t, z_at, Int.add_zero, Int.sub_zero, Int.zero_add, Int.mul_zero, ne_eq, Bool.false_eq_true, Bool.true_eq_false, reduceCtorEq, eq_self, and_true, true_and, and_false, false_and, and_self, not_true_eq_false, not_false_eq_true, decide_true, decide_false, ↓reduceIte, Int.reduceEq, Int.reduceNe, Int.reduceLT, Int.reduceLE, Int.reduceAdd, Int.reduceSub, Int.reduceMul, Int.reduceNeg, Nat.reduceAdd, Nat.reduceEqDiff, Nat.reduceBEq, ↓z_x_eq, z_g_t, z_bI_s, z_bL_s, z_bR_s, z_bV_s, Int.cast_ofNat_Int, beq_self_eq_true, Bool.and_true, Bool.true_and, Bool.and_self, Bool.or_true, Bool.true_or, Bool.false_and, Bool.and_false, Bool.false_or, Bool.or_false, Bool.not_false, Bool.not_true, if_true, if_false, ite_true, ite_false, z_up_eq, z_up_app, z_ro_eq, cc, gt3, c1, gt4, c2, c5', so, c3', z_up_up, z_up_cm, z_ro_ro]
            · have hP : s_sd (G 81) b1 p = false := decide_eq_false (fun q => c3 q.2.2)
              rw [hP]
              refine Eq.trans ?_ ih0
              rw [e_M_laySides_18]
              simp -implicitDefEqProofs (disch := first | assumption | omega | rfl | (simp only [z_up_eq, z_up_app, ↓reduceIte, Nat.reduceEqDiff]; omega)) only [z_lit0, z_lit1, z_lit2, z_litl, iI_add, iI_sub, iI_mul, iI_neg, iI_and, iI_or, iI_xor, iI_shl, iI_shr, iI_ushr, iI_div, iI_b, iI_c, iI_i2l, lI_l2i, lI_add, lI_sub, lI_mul, lI_neg, lI_div, lI_or, lI_and, lI_shl, lI_shr, nI_iI, lg_lt0, lg_gt0, lg_eq0, i_ne0', l_ne0', iI_lt, iI_le, iI_eq, lI_lt, lI_le, lI_eq, zb_0, zb_fit, zb_fit0, zb_fit1, i_one_zero, i_w_in, z_tb0, z_tb1, z_tb2, z_tb3, z_tb4, z_tb5, z_tb6, z_tb7, z_tb8, z_tbl, z_tu0, z_tu1, z_tu2, z_i_62, z_i_63, z_i_86, z_i_88, z_l_Y, z_ui_62, z_ui_63, z_ui_86, z_ui_88, z_ul_Y, z_sz_Y, z_sw_Y, iI_nat, z_ix_t, z_at, Int.add_zero, Int.sub_zero, Int.zero_add, Int.mul_zero, ne_eq, Bool.false_eq_true, Bool.true_eq_false, reduceCtorEq, eq_self, and_true, true_and, and_false, false_and, and_self, not_true_eq_false, not_false_eq_true, decide_true, decide_false, ↓reduceIte, Int.reduceEq, Int.reduceNe, Int.reduceLT, Int.reduceLE, Int.reduceAdd, Int.reduceSub, Int.reduceMul, Int.reduceNeg, Nat.reduceAdd, Nat.reduceEqDiff, Nat.reduceBEq, ↓z_x_eq, z_g_t, z_bI_s, z_bL_s, z_bR_s, z_bV_s, Int.cast_ofNat_Int, beq_self_eq_true, Bool.and_true, Bool.true_and, Bool.and_self, Bool.or_true, Bool.true_or, Bool.false_and, Bool.and_false, Bool.false_or, Bool.or_false, Bool.not_false, Bool.not_true, if_true, if_false, ite_true, ite_false, z_up_eq, z_up_app, z_ro_eq, cc, gt3, c1, gt4, c2, c5', so, c3]
          · rw [show (if (1 : Int) = 0 then b1 else b2) = b2 from if_neg (by omega)] at ih0 ih1 ⊢
            by_cases c3 : G 81 (12 + 2 * G 81 (32 + 5 * p + 3)) = b2
            · have c3' : (G 81 (12 + 2 * G 81 (32 + 5 * p + 3)) = b2) = True := eq_true c3
              have hP : s_sd (G 81) b2 p = true := decide_eq_true ⟨c1, c2, c3⟩
              rw [hP]
              refine Eq.trans ?_ ih1
              rw [e_M_laySides_18]
              simp -implicitDefEqProofs (disch := first | assumption | omega | rfl | (simp only [z_up_eq, z_up_app, ↓reduceIte, Nat.reduceEqDiff]; omega)) only [z_lit0, z_lit1, z_lit2, z_litl, iI_add, iI_sub, iI_mul, iI_neg, iI_and, iI_or, iI_xor, iI_shl, iI_shr, iI_ushr, iI_div, iI_b, iI_c, iI_i2l, lI_l2i, lI_add, lI_sub, lI_mul, lI_neg, lI_div, lI_or, lI_and, lI_shl, lI_shr, nI_iI, lg_lt0, lg_gt0, lg_eq0, i_ne0', l_ne0', iI_lt, iI_le, iI_eq, lI_lt, lI_le, lI_eq, zb_0, zb_fit, zb_fit0, zb_fit1, i_one_zero, i_w_in, z_tb0, z_tb1, z_tb2, z_tb3, z_tb4, z_tb5, z_tb6, z_tb7, z_tb8, z_tbl, z_tu0, z_tu1, z_tu2, z_i_62, z_i_63, z_i_86, z_i_88, z_l_Y, z_ui_62, z_ui_63, z_ui_86, z_ui_88, z_ul_Y, z_sz_Y, z_sw_Y, iI_nat, z_ix_t, z_at, Int.add_zero, Int.sub_zero, Int.zero_add, Int.mul_zero, ne_eq, Bool.false_eq_true, Bool.true_eq_false, reduceCtorEq, eq_self, and_true, true_and, and_false, false_and, and_self, not_true_eq_false, not_false_eq_true, decide_true, decide_false, ↓reduceIte, Int.reduceEq, Int.reduceNe, Int.reduceLT, Int.reduceLE, Int.reduceAdd, Int.reduceSub, Int.reduceMul, Int.reduceNeg, Nat.reduceAdd, Nat.reduceEqDiff, Nat.reduceBEq, ↓z_x_eq, z_g_t, z_bI_s, z_bL_s, z_bR_s, z_bV_s, Int.cast_ofNat_Int, beq_self_eq_true, Bool.and_true, Bool.true_and, Bool.and_self, Bool.or_true, Bool.true_or, Bool.false_and, Bool.and_false, Bool.false_or, Bool.or_false, Bool.not_false, Bool.not_true, if_true, if_false, ite_true, ite_false, z_up_eq, z_up_app, z_ro_eq, cc, gt3, c1, gt4, c2, c5', so, c3', z_up_up, z_up_cm, z_ro_ro]
            · have hP : s_sd (G 81) b2 p = false := decide_eq_false (fun q => c3 q.2.2)
              rw [hP]
              refine Eq.trans ?_ ih0
              rw [e_M_laySides_18]
              simp -implicitDefEqProofs (disch := first | assumption | omega | rfl | (simp only [z_up_eq, z_up_app, ↓reduceIte, Nat.reduceEqDiff]; omega)) only [z_lit0, z_lit1, z_lit2, z_litl, iI_add, iI_sub, iI_mul, iI_neg, iI_and, iI_or, iI_xor, iI_shl, iI_shr, iI_ushr, iI_div, iI_b, iI_c, iI_i2l, lI_l2i, lI_add, lI_sub, lI_mul, lI_neg, lI_div, lI_or, lI_and, lI_shl, lI_shr, nI_iI, lg_lt0, lg_gt0, lg_eq0, i_ne0', l_ne0', iI_lt, iI_le, iI_eq, lI_lt, lI_le, lI_eq, zb_0, zb_fit, zb_fit0, zb_fit1, i_one_zero, i_w_in, z_tb0, z_tb1, z_tb2, z_tb3, z_tb4, z_tb5, z_tb6, z_tb7, z_tb8, z_tbl, z_tu0, z_tu1, z_tu2, z_i_62, z_i_63, z_i_86, z_i_88, z_l_Y, z_ui_62, z_ui_63, z_ui_86, z_ui_88, z_ul_Y, z_sz_Y, z_sw_Y, iI_nat, z_ix_t, z_at, Int.add_zero, Int.sub_zero, Int.zero_add, Int.mul_zero, ne_eq, Bool.false_eq_true, Bool.true_eq_false, reduceCtorEq, eq_self, and_true, true_and, and_false, false_and, and_self, not_true_eq_false, not_false_eq_true, decide_true, decide_false, ↓reduceIte, Int.reduceEq, Int.reduceNe, Int.reduceLT, Int.reduceLE, Int.reduceAdd, Int.reduceSub, Int.reduceMul, Int.reduceNeg, Nat.reduceAdd, Nat.reduceEqDiff, Nat.reduceBEq, ↓z_x_eq, z_g_t, z_bI_s, z_bL_s, z_bR_s, z_bV_s, Int.cast_ofNat_Int, beq_self_eq_true, Bool.and_true, Bool.true_and, Bool.and_self, Bool.or_true, Bool.true_or, Bool.false_and, Bool.and_false, Bool.false_or, Bool.or_false, Bool.not_false, Bool.not_true, if_true, if_false, ite_true, ite_false, z_up_eq, z_up_app, z_ro_eq, cc, gt3, c1, gt4, c2, c5', so, c3]

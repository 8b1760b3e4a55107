/-! THE PURE PART, 69: a duel, the class's game is the model's -/
theorem g_lt {f g : Nat} (hf : f ≤ 5) (hg : g ≤ 5) {a b : Int} (ha : 0 ≤ a ∧ a < 2 ^ f) (hb : 0 ≤ b ∧ b < 2 ^ g) : 0 ≤ a + 2 ^ f * b ∧ a + 2 ^ f * b < 2 ^ (f + g) := by
  have q : ∀ k : Nat, k ≤ 5 → (1 : Int) ≤ 2 ^ k ∧ (2 : Int) ^ k ≤ 32 := by decide
  have pf := q f hf
  have h1 : 0 ≤ (2 : Int) ^ f * b := Int.mul_nonneg (by omega) hb.1
  have h2 : (2 : Int) ^ f * (b + 1) ≤ 2 ^ f * 2 ^ g := Int.mul_le_mul_of_nonneg_left (by omega) (by omega)
  rw [Int.mul_add, Int.mul_one] at h2
  rw [Int.pow_add]
  omega
theorem g_b32 {g : Nat} (hg : g ≤ 5) {b : Int} (hb : 0 ≤ b ∧ b < 2 ^ g) : 0 ≤ b ∧ b < 32 := by
  have q : ∀ k : Nat, k ≤ 5 → (1 : Int) ≤ 2 ^ k ∧ (2 : Int) ^ k ≤ 32 := by decide
  have := q g hg
  omega
theorem g_gd_f {hs : Int → Bool} {V : Int → Int → Bool} {f g : Nat} (hf : f ≤ 5) (hg : g ≤ 5) {a b i : Int} (ha : 0 ≤ a ∧ a < 2 ^ f) (hb : 0 ≤ b ∧ b < 2 ^ g) (hi : 0 ≤ i ∧ i < f) {H : Int → Int → Bool} {W : Int → Int} (hH : ∀ a', 0 ≤ a' → a' < 2 ^ f → H a' b = hs (a' + 2 ^ f * b)) (hW : ∀ a', a < a' → a' < 2 ^ f → i_bits a' = i_bits a + 1 → i_has (W a') b = V (a' + 2 ^ f * b) 1) : (!(i_has a i) && H (i_or a (i_shl 1 i)) b && !(i_has (W (i_or a (i_shl 1 i))) b)) = g_gd hs f V (a + 2 ^ f * b) 0 i := by
  unfold g_gd
  have l := g_lt hf hg ha hb
  have e0 : i_has (a + 2 ^ f * b) i = i_has a i := by
    rw [g_spl hf ha (g_b32 hg hb) ⟨hi.1, by omega⟩]; exact if_pos hi.2
  rw [e0, decide_eq_true hi.2, show decide ((0 : Int) = 0) = true from rfl]
  cases hh : i_has a i
  · obtain ⟨e, e1, e2, e3⟩ := (g_or5 hf ha hi).2 hh
    obtain ⟨q, _, _⟩ := g_or (n := f + g) (by omega) l (k := i) ⟨hi.1, by omega⟩ (e0.trans hh)
    rw [e, q, show a + 2 ^ f * b + 2 ^ i.toNat = a + 2 ^ i.toNat + 2 ^ f * b by omega, hH _ (by omega) e2, hW _ e1 e2 e3, show (1 : Int) - 0 = 1 by omega]
    rfl
  · rfl
theorem g_gd_s {hs : Int → Bool} {V : Int → Int → Bool} {f g : Nat} (hf : f ≤ 5) (hg : g ≤ 5) {a b i : Int} (ha : 0 ≤ a ∧ a < 2 ^ f) (hb : 0 ≤ b ∧ b < 2 ^ g) (hi : 0 ≤ i ∧ i < g) {H : Int → Int → Bool} {W : Int → Int} (hH : ∀ b', 0 ≤ b' → b' < 2 ^ g → H a b' = hs (a + 2 ^ f * b')) (hW : ∀ b', b < b' → b' < 2 ^ g → i_bits b' = i_bits b + 1 → i_has (W a) b' = V (a + 2 ^ f * b') 0) : (!(i_has b i) && H a (i_or b (i_shl 1 i)) && !(i_has (W a) (i_or b (i_shl 1 i)))) = g_gd hs f V (a + 2 ^ f * b) 1 (f + i) := by
  unfold g_gd
  have l := g_lt hf hg ha hb
  have e0 : i_has (a + 2 ^ f * b) (f + i) = i_has b i := by
    rw [g_spl hf ha (g_b32 hg hb) ⟨by omega, by omega⟩, show (f : Int) + i - f = i by omega]; exact if_neg (by omega)
  rw [e0, decide_eq_false (show ¬ (f : Int) + i < f by omega), show decide ((1 : Int) = 0) = false from rfl]
  cases hh : i_has b i
  · obtain ⟨e, e1, e2, e3⟩ := (g_or5 hg hb hi).2 hh
    obtain ⟨q, _, _⟩ := g_or (n := f + g) (by omega) l (k := f + i) ⟨by omega, by omega⟩ (e0.trans hh)
    have e4 : (2 : Int) ^ ((f : Int) + i).toNat = 2 ^ f * 2 ^ i.toNat := by rw [show ((f : Int) + i).toNat = f + i.toNat by omega, Int.pow_add]
    rw [e, q, e4, show a + 2 ^ f * b + 2 ^ f * 2 ^ i.toNat = a + 2 ^ f * (b + 2 ^ i.toNat) by rw [Int.mul_add]; omega, hH _ (by omega) e2, hW _ e1 e2 e3, show (1 : Int) - 1 = 0 by omega]
    rfl
  · rfl
theorem g_gd_no0 {hs : Int → Bool} {V : Int → Int → Bool} {f s k : Int} (h : f ≤ k) : g_gd hs f V s 0 k = false := by
  unfold g_gd
  rw [decide_eq_false (show ¬ k < f by omega), show decide ((0 : Int) = 0) = true from rfl]
  simp
theorem g_gd_no1 {hs : Int → Bool} {V : Int → Int → Bool} {f s k : Int} (h : k < f) : g_gd hs f V s 1 k = false := by
  unfold g_gd
  rw [decide_eq_true h, show decide ((1 : Int) = 0) = false from rfl]
  simp
theorem g_find_more {P : Int → Bool} : ∀ (n m : Nat) (i : Int), (∀ k, i + n ≤ k → k < i + n + m → P k = false) → z_find (n + m) i P = z_find n i P
  | 0, m, i, h => by rw [Nat.zero_add]; exact z_find_no m i (fun k a b => h k (by omega) (by omega))
  | n + 1, m, i, h => by
    rw [show n + 1 + m = (n + m) + 1 by omega]
    show cond (P i) i (z_find (n + m) (i + 1) P) = cond (P i) i (z_find n (i + 1) P)
    rw [g_find_more n m (i + 1) (fun k a b => h k (by omega) (by omega))]
/-- whoever is to move, at the class's two sets -/
theorem g_V0 {hs : Int → Bool} {f g : Nat} (hf : f ≤ 5) (hg : g ≤ 5) {a b : Int} (ha : 0 ≤ a ∧ a < 2 ^ f) (hb : 0 ≤ b ∧ b < 2 ^ g) : g_V hs f (f + g) (a + 2 ^ f * b) 0 = decide (z_find f 0 (g_gd hs f (g_V hs f (f + g)) (a + 2 ^ f * b) 0) ≠ -1) := by
  rw [g_V_eq hs f (by omega) (g_lt hf hg ha hb), z_any_more f g 0 (fun k e1 e2 => g_gd_no0 (by omega)), z_find_any (by omega)]
theorem g_V1 {hs : Int → Bool} {f g : Nat} (hf : f ≤ 5) (hg : g ≤ 5) {a b : Int} (ha : 0 ≤ a ∧ a < 2 ^ f) (hb : 0 ≤ b ∧ b < 2 ^ g) : g_V hs f (f + g) (a + 2 ^ f * b) 1 = z_any g 0 (fun i => g_gd hs f (g_V hs f (f + g)) (a + 2 ^ f * b) 1 (f + i)) := by
  rw [g_V_eq hs f (by omega) (g_lt hf hg ha hb)]
  exact z_any_skip f g 0 (fun k e1 e2 => g_gd_no1 (by omega)) (fun k e1 e2 => by rw [Int.zero_add])
def g_iv (hs : Int → Bool) (f g : Nat) (W : Int → Int) (a b : Int) : Prop := (∀ a' b' : Int, 0 ≤ a' → a' < 2 ^ f → 0 ≤ b' → b' < 2 ^ g → (a < a' ∨ (a' = a ∧ b < b')) → ∀ t : Int, (t = 0 ∨ t = 1) → i_bits a' = i_bits b' + t → i_has (W a') b' = g_V hs f (f + g) (a' + 2 ^ f * b') t) ∧ ∀ b' : Int, 0 ≤ b' → b' ≤ b → i_has (W a) b' = false
theorem g_iv_no {hs : Int → Bool} {f g : Nat} (hg : g ≤ 5) {W : Int → Int} {a b : Int} (h : g_iv hs f g W a b) (hb : 0 ≤ b ∧ b < 2 ^ g) (h2 : ∀ t : Int, (t = 0 ∨ t = 1) → i_bits a = i_bits b + t → g_V hs f (f + g) (a + 2 ^ f * b) t = false) : g_iv hs f g W a (b + -1) := by
  refine ⟨fun a' b' q1 q2 q3 q4 q5 t ht hl => ?_, fun b' q1 q2 => h.2 b' q1 (by omega)⟩
  by_cases e : a' = a ∧ b' = b
  · rw [e.1, e.2] at hl ⊢
    rw [h.2 b hb.1 (by omega), h2 t ht hl]
  · exact h.1 a' b' q1 q2 q3 q4 (by omega) t ht hl
theorem g_iv_yes {hs : Int → Bool} {f g : Nat} (hg : g ≤ 5) {W : Int → Int} {a b : Int} (h : g_iv hs f g W a b) (hb : 0 ≤ b ∧ b < 2 ^ g) (h2 : ∀ t : Int, (t = 0 ∨ t = 1) → i_bits a = i_bits b + t → g_V hs f (f + g) (a + 2 ^ f * b) t = true) : g_iv hs f g (z_ro W a (i_or (W a) (i_shl 1 b))) a (b + -1) := by
  have b32 := g_b32 hg hb
  refine ⟨fun a' b' q1 q2 q3 q4 q5 t ht hl => ?_, fun b' q1 q2 => ?_⟩
  · have b32' := g_b32 hg ⟨q3, q4⟩
    by_cases e : a' = a
    · rw [e] at hl ⊢
      rw [z_ro_eq, i_has_orw b32 b32']
      by_cases e2 : b' = b
      · rw [e2] at hl ⊢
        rw [h2 t ht hl, decide_eq_true rfl, Bool.or_true]
      · rw [decide_eq_false e2, Bool.or_false]
        exact h.1 a b' (by omega) (by omega) q3 q4 (by omega) t ht hl
    · rw [z_ro_ne _ _ e]
      exact h.1 a' b' q1 q2 q3 q4 (by omega) t ht hl
  · rw [z_ro_eq, i_has_orw b32 ⟨q1, by omega⟩, h.2 b' q1 (by omega), decide_eq_false (by omega)]; rfl
theorem p_fi_116 (d : Nat) (T : ZT) (G : ZG) {no a air : Int} {f g : Nat} {hs : Int → Bool} {y : Int} (hQ : c_q T G) (hf : f ≤ 5) (hg : g ≤ 5) (ha : 0 ≤ a ∧ a < 2 ^ f) (hai : ∀ a' b' : Int, 0 ≤ a' → a' < 2 ^ f → 0 ≤ b' → b' < 2 ^ g → -1000 ≤ air + G 77 a' + G 78 b' ∧ air + G 77 a' + G 78 b' ≤ 1000) (hH : ∀ a' b' : Int, 0 ≤ a' → a' < 2 ^ f → 0 ≤ b' → b' < 2 ^ g → m_holds (G 81) (G 83) (G 81 6) no (air + G 77 a' + G 78 b') (G 81 (82 + 2 * no)) = hs (a' + 2 ^ f * b')) : ∀ (m : Nat) (b : Int) (V W : Int → Int) (s : ZG × ZG), b + 1 = m → b < 2 ^ g → v_ok G no V → g_iv hs f g W a b → ∃ V' W' s', z_w d_Ga_fight (z_call (d + 5)) 116 [some (vr 70), none, none, none, some (vi (iI y)), none, some (vi (iI air)), some (vi (iI g)), some (vi (iI f)), some (vi (iI a)), some (vi (iI b)), none] [] (z_Y T (z_up (z_up G 64 V) 79 W) s) = z_w d_Ga_fight (z_call (d + 5)) 95 [some (vr 70), none, none, none, some (vi (iI y)), none, some (vi (iI air)), some (vi (iI g)), some (vi (iI f)), some (vi (iI (a + -1))), none, none] [] (z_Y T (z_up (z_up G 64 V') 79 W') s') ∧ v_ok G no V' ∧ g_iv hs f g W' a (-1)
  | 0, b, V, W, s, h, hb, hv, hi => by
    have a32 := g_b32 hf ha
    have e : b = -1 := by omega
    rw [e] at hi ⊢
    refine ⟨V, W, s, ?_, hv, hi⟩
    rw [e_Ga_fight_116]
    simp -implicitDefEqProofs (disch := first | assumption | omega | rfl | (simp only [z_up_eq, z_up_app, ↓reduceIte, Nat.reduceEqDiff]; omega)) only [z_lit0, z_lit1, z_lit2, z_litl, iI_add, iI_sub, iI_mul, iI_neg, iI_and, iI_or, iI_xor, iI_shl, iI_shr, iI_ushr, iI_div, iI_b, iI_c, iI_i2l, lI_l2i, lI_add, lI_sub, lI_mul, lI_neg, lI_div, lI_or, lI_and, lI_shl, lI_shr, nI_iI, lg_lt0, lg_gt0, lg_eq0, i_ne0', l_ne0', iI_lt, iI_le, iI_eq, lI_lt, lI_le, lI_eq, zb_0, zb_fit, zb_fit0, zb_fit1, i_one_zero, i_w_in, z_tb0, z_tb1, z_tb2, z_tb3, z_tb4, z_tb5, z_tb6, z_tb7, z_tb8, z_tbl, z_tu0, z_tu1, z_tu2, z_i_62, z_i_63, z_i_86, z_i_88, z_l_Y, z_ui_62, z_ui_63, z_ui_86, z_ui_88, z_ul_Y, z_sz_Y, z_sw_Y, iI_nat, z_ix_t, z_at, Int.add_zero, Int.sub_zero, Int.zero_add, Int.mul_zero, ne_eq, Bool.false_eq_true, Bool.true_eq_false, reduceCtorEq, eq_self, and_true, true_and, and_false, false_and, and_self, not_true_eq_false, not_false_eq_true, decide_true, decide_false, ↓reduceIte, Int.reduceEq, Int.reduceNe, Int.reduceLT, Int.reduceLE, Int.reduceAdd, Int.reduceSub, Int.reduceMul, Int.reduceNeg, Nat.reduceAdd, Nat.reduceEqDiff, Nat.reduceBEq, ↓z_x_eq, z_g_t, z_bI_s, z_bL_s, z_bR_s, z_bV_s, Int.cast_ofNat_Int, beq_self_eq_true, Bool.and_true, Bool.true_and, Bool.and_self, Bool.or_true, Bool.true_or, Bool.false_and, Bool.and_false, Bool.false_or, Bool.or_false, Bool.not_false, Bool.not_true, if_true, if_false, ite_true, ite_false, z_up_eq, z_up_app, z_ro_eq]
  | m + 1, b, V, W, s, h, hb, hv, hi => by
    have a32 := g_b32 hf ha
    have b32 := g_b32 hg ⟨(by omega : 0 ≤ b), hb⟩
    have c : (b < 0) = False := eq_false (by omega)
    have ba := fun σ => p_bc (d + 4) (x := a) σ ⟨by omega, by omega⟩
    have bb := fun σ => p_bc (d + 4) (x := b) σ ⟨by omega, by omega⟩
    have ia := i_bits_in a
    have ib := i_bits_in b
    by_cases c0 : i_bits a = i_bits b
    · have c0' : (i_bits a - i_bits b = 0) = True := eq_true (by omega)
      have c1' : (i_bits a - i_bits b = 1) = False := eq_false (by omega)
      obtain ⟨V1, s1, e1, hv1⟩ := p_fm d T G (no := no) (a := a) (b := b) (air := air) (f := f) (W := W) hQ hf ha b32 (fun a' q1 q2 => hai a' b q1 q2 b32.1 hb) f 0 V s (by omega) (by omega) hv
      rw [z_find_eq f 0 (fun i q1 q2 => g_gd_f (hs := hs) (V := g_V hs f (f + g)) (H := fun a' b' => m_holds (G 81) (G 83) (G 81 6) no (air + G 77 a' + G 78 b') (G 81 (82 + 2 * no))) (W := W) hf hg ha ⟨b32.1, hb⟩ ⟨q1, by omega⟩ (fun a' r1 r2 => hH a' b r1 r2 b32.1 hb) (fun a' r1 r2 r3 => hi.1 a' b (by omega) r2 b32.1 hb (Or.inl r1) 1 (Or.inr rfl) (by omega)))] at e1
      have ev := g_V0 (hs := hs) hf hg ha ⟨b32.1, hb⟩
      have fi := z_find_in (g_gd hs f (g_V hs f (f + g)) (a + 2 ^ f * b) 0) f 0
      by_cases cz : z_find f 0 (g_gd hs f (g_V hs f (f + g)) (a + 2 ^ f * b) 0) = -1
      · rw [cz] at e1
        have hi2 := g_iv_no hg hi ⟨b32.1, hb⟩ (fun t ht hl => by
          have : t = 0 := by omega
          rw [this, ev]; exact decide_eq_false (fun q => q cz))
        obtain ⟨V', W', s', ih, k1, k2⟩ := p_fi_116 d T G (y := y) hQ hf hg ha hai hH m (b + -1) V1 W s1 (by omega) (by omega) hv1 hi2
        refine ⟨V', W', s', ?_, k1, k2⟩
        rw [← ih, e_Ga_fight_116]
        simp -implicitDefEqProofs (disch := first | assumption | omega | rfl | (simp only [z_up_eq, z_up_app, ↓reduceIte, Nat.reduceEqDiff]; omega)) only [z_lit0, z_lit1, z_lit2, z_litl, iI_add, iI_sub, iI_mul, iI_neg, iI_and, iI_or, iI_xor, iI_shl, iI_shr, iI_ushr, iI_div, iI_b, iI_c, iI_i2l, lI_l2i, lI_add, lI_sub, lI_mul, lI_neg, lI_div, lI_or, lI_and, lI_shl, lI_shr, nI_iI, lg_lt0, lg_gt0, lg_eq0, i_ne0', l_ne0', iI_lt, iI_le, iI_eq, lI_lt, lI_le, lI_eq, zb_0, zb_fit, zb_fit0, zb_fit1, i_one_zero, i_w_in, z_tb0, z_tb1, z_tb2, z_tb3, z_tb4, z_tb5, z_tb6, z_tb7, z_tb8, z_tbl, z_tu0, z_tu1, z_tu2, z_i_62, z_i_63, z_i_86, z_i_88, z_l_Y, z_ui_62, z_ui_63, z_ui_86, z_ui_88, z_ul_Y, z_sz_Y, z_sw_Y, iI_nat, z_ix_t, z_at, Int.add_zero, Int.sub_zero, Int.zero_add, Int.mul_zero, ne_eq, Bool.false_eq_true, Bool.true_eq_false, reduceCtorEq, eq_self, and_true, true_and, and_false, false_and, and_self, not_true_eq_false, not_false_eq_true, decide_true, decide_false, ↓reduceIte, Int.reduceEq, Int.reduceNe, Int.reduceLT, Int.reduceLE, Int.reduceAdd, Int.reduceSub, Int.reduceMul, Int.reduceNeg, Nat.reduceAdd, Nat.reduceEqDiff, Nat.reduceBEq, ↓z_x_eq, z_g_t, z_bI_s, z_bL_s, z_bR_s, z_bV_s, Int.cast_ofNat_Int, beq_self_eq_true, Bool.and_true, Bool.true_and, Bool.and_self, Bool.or_true, Bool.true_or, Bool.false_and, Bool.and_false, Bool.false_or, Bool.or_false, Bool.not_false, Bool.not_true, if_true, if_false, ite_true, ite_false, z_up_eq, z_up_app, z_ro_eq, c, ba, bb, c0', c1', e_Ga_firstMove, e1]
      · have cz' := eq_false cz
        have hi2 := g_iv_yes hg hi ⟨b32.1, hb⟩ (fun t ht hl => by
          have : t = 0 := by omega
          rw [this, ev]; exact decide_eq_true cz)
        obtain ⟨V', W', s', ih, k1, k2⟩ := p_fi_116 d T G (y := y) hQ hf hg ha hai hH m (b + -1) V1 _ s1 (by omega) (by omega) hv1 hi2
        refine ⟨V', W', s', ?_, k1, k2⟩
        generalize z_find f 0 (g_gd hs f (g_V hs f (f + g)) (a + 2 ^ f * b) 0) = mv at *
        rw [← ih, e_Ga_fight_116]
        simp -implicitDefEqProofs (disch := first | assumption | omega | rfl | (simp only [z_up_eq, z_up_app, ↓reduceIte, Nat.reduceEqDiff]; omega)) only [z_lit0, z_lit1, z_lit2, z_litl, iI_add, iI_sub, iI_mul, iI_neg, iI_and, iI_or, iI_xor, iI_shl, iI_shr, iI_ushr, iI_div, iI_b, iI_c, iI_i2l, lI_l2i, lI_add, lI_sub, lI_mul, lI_neg, lI_div, lI_or, lI_and, lI_shl, lI_shr, nI_iI, lg_lt0, lg_gt0, lg_eq0, i_ne0', l_ne0', iI_lt, iI_le, iI_eq, lI_lt, lI_le, lI_eq, zb_0, zb_fit, zb_fit0, zb_fit1, i_one_zero, i_w_in, z_tb0, z_tb1, z_tb2, z_tb3, z_tb4, z_tb5, z_tb6, z_tb7, z_tb8, z_tbl, z_tu0, z_tu1, z_tu2, z_i_62, z_i_63, z_i_86, z_i_88, z_l_Y, z_ui_62, z_ui_63, z_ui_86, z_ui_88, z_ul_Y, z_sz_Y, z_sw_Y, iI_nat, z_ix_t, z_at, Int.add_zero, Int.sub_zero, Int.zero_add, Int.mul_zero, ne_eq, Bool.false_eq_true, Bool.true_eq_false, reduceCtorEq, eq_self, and_true, true_and, and_false, false_and, and_self, not_true_eq_false, not_false_eq_true, decide_true, decide_false, ↓reduceIte, Int.reduceEq, Int.reduceNe, Int.reduceLT, Int.reduceLE, Int.reduceAdd, Int.reduceSub, Int.reduceMul, Int.reduceNeg, Nat.reduceAdd, Nat.reduceEqDiff, Nat.reduceBEq, ↓z_x_eq, z_g_t, z_bI_s, z_bL_s, z_bR_s, z_bV_s, Int.cast_ofNat_Int, beq_self_eq_true, Bool.and_true, Bool.true_and, Bool.and_self, Bool.or_true, Bool.true_or, Bool.false_and, Bool.and_false, Bool.false_or, Bool.or_false, Bool.not_false, Bool.not_true, if_true, if_false, ite_true, ite_false, z_up_eq, z_up_app, z_ro_eq, c, ba, bb, c0', c1', e_Ga_firstMove, e1, cz', z_up_up]
    · have c0' : (i_bits a - i_bits b = 0) = False := eq_false (by omega)
      by_cases c1 : i_bits a = i_bits b + 1
      · have c1' : (i_bits a - i_bits b = 1) = True := eq_true (by omega)
        obtain ⟨V1, s1, e1, hv1⟩ := p_sw2 d T G (no := no) (a := a) (b := b) (air := air) (g := g) (W := W) hQ hg ⟨b32.1, hb⟩ a32 (fun b' q1 q2 => hai a b' ha.1 ha.2 q1 q2) g 0 V s (by omega) (by omega) hv
        rw [z_any_eq g 0 (fun i q1 q2 => g_gd_s (hs := hs) (V := g_V hs f (f + g)) (H := fun a' b' => m_holds (G 81) (G 83) (G 81 6) no (air + G 77 a' + G 78 b') (G 81 (82 + 2 * no))) (W := W) hf hg ha ⟨b32.1, hb⟩ ⟨q1, by omega⟩ (fun b' r1 r2 => hH a b' ha.1 ha.2 r1 r2) (fun b' r1 r2 r3 => hi.1 a b' ha.1 ha.2 (by omega) r2 (Or.inr ⟨rfl, r1⟩) 0 (Or.inl rfl) (by omega))), ← g_V1 hf hg ha ⟨b32.1, hb⟩] at e1
        cases cz : g_V hs f (f + g) (a + 2 ^ f * b) 1
        · rw [cz] at e1
          have hi2 := g_iv_no hg hi ⟨b32.1, hb⟩ (fun t ht hl => by
            have : t = 1 := by omega
            rw [this]; exact cz)
          obtain ⟨V', W', s', ih, k1, k2⟩ := p_fi_116 d T G (y := y) hQ hf hg ha hai hH m (b + -1) V1 W s1 (by omega) (by omega) hv1 hi2
          refine ⟨V', W', s', ?_, k1, k2⟩
          rw [← ih, e_Ga_fight_116]
          simp -implicitDefEqProofs (disch := first | assumption | omega | rfl | (simp only [z_up_eq, z_up_app, ↓reduceIte, Nat.reduceEqDiff]; omega)) only [z_lit0, z_lit1, z_lit2, z_litl, iI_add, iI_sub, iI_mul, iI_neg, iI_and, iI_or, iI_xor, iI_shl, iI_shr, iI_ushr, iI_div, iI_b, iI_c, iI_i2l, lI_l2i, lI_add, lI_sub, lI_mul, lI_neg, lI_div, lI_or, lI_and, lI_shl, lI_shr, nI_iI, lg_lt0, lg_gt0, lg_eq0, i_ne0', l_ne0', iI_lt, iI_le, iI_eq, lI_lt, lI_le, lI_eq, zb_0, zb_fit, zb_fit0, zb_fit1, i_one_zero, i_w_in, z_tb0, z_tb1, z_tb2, z_tb3, z_tb4, z_tb5, z_tb6, z_tb7, z_tb8, z_tbl, z_tu0, z_tu1, z_tu2, z_i_62, z_i_63, z_i_86, z_i_88, z_l_Y, z_ui_62, z_ui_63, z_ui_86, z_ui_88, z_ul_Y, z_sz_Y, z_sw_Y, iI_nat, z_ix_t, z_at, Int.add_zero, Int.sub_zero, Int.zero_add, Int.mul_zero, ne_eq, Bool.false_eq_true, Bool.true_eq_false, reduceCtorEq, eq_self, and_true, true_and, and_false, false_and, and_self, not_true_eq_false, not_false_eq_true, decide_true, decide_false, ↓reduceIte, Int.reduceEq, Int.reduceNe, Int.reduceLT, Int.reduceLE, Int.reduceAdd, Int.reduceSub, Int.reduceMul, Int.reduceNeg, Nat.reduceAdd, Nat.reduceEqDiff, Nat.reduceBEq, ↓z_x_eq, z_g_t, z_bI_s, z_bL_s, z_bR_s, z_bV_s, Int.cast_ofNat_Int, beq_self_eq_true, Bool.and_true, Bool.true_and, Bool.and_self, Bool.or_true, Bool.true_or, Bool.false_and, Bool.and_false, Bool.false_or, Bool.or_false, Bool.not_false, Bool.not_true, if_true, if_false, ite_true, ite_false, z_up_eq, z_up_app, z_ro_eq, c, ba, bb, c0', c1', e_Ga_secondWins, e1, zb_f]
        · rw [cz] at e1
          have hi2 := g_iv_yes hg hi ⟨b32.1, hb⟩ (fun t ht hl => by
            have : t = 1 := by omega
            rw [this]; exact cz)
          obtain ⟨V', W', s', ih, k1, k2⟩ := p_fi_116 d T G (y := y) hQ hf hg ha hai hH m (b + -1) V1 _ s1 (by omega) (by omega) hv1 hi2
          refine ⟨V', W', s', ?_, k1, k2⟩
          rw [← ih, e_Ga_fight_116]
          simp -implicitDefEqProofs (disch := first | assumption | omega | rfl | (simp only [z_up_eq, z_up_app, ↓reduceIte, Nat.reduceEqDiff]; omega)) only [z_lit0, z_lit1, z_lit2, z_litl, iI_add, iI_sub, iI_mul, iI_neg, iI_and, iI_or, iI_xor, iI_shl, iI_shr, iI_ushr, iI_div, iI_b, iI_c, iI_i2l, lI_l2i, lI_add, lI_sub, lI_mul, lI_neg, lI_div, lI_or, lI_and, lI_shl, lI_shr, nI_iI, lg_lt0, lg_gt0, lg_eq0, i_ne0', l_ne0', iI_lt, iI_le, iI_eq, lI_lt, lI_le, lI_eq, zb_0, zb_fit, zb_fit0, zb_fit1, i_one_zero, i_w_in, z_tb0, z_tb1, z_tb2, z_tb3, z_tb4, z_tb5, z_tb6, z_tb7, z_tb8, z_tbl, z_tu0, z_tu1, z_tu2, z_i_62, z_i_63, z_i_86, z_i_88, z_l_Y, z_ui_62, z_ui_63, z_ui_86, z_ui_88, z_ul_Y, z_sz_Y, z_sw_Y, iI_nat, z_ix_t, z_at, Int.add_zero, Int.sub_zero, Int.zero_add, Int.mul_zero, ne_eq, Bool.false_eq_true, Bool.true_eq_false, reduceCtorEq, eq_self, and_true, true_and, and_false, false_and, and_self, not_true_eq_false, not_false_eq_true, decide_true, decide_false, ↓reduceIte, Int.reduceEq, Int.reduceNe, Int.reduceLT, Int.reduceLE, Int.reduceAdd, Int.reduceSub, Int.reduceMul, Int.reduceNeg, Nat.reduceAdd, Nat.reduceEqDiff, Nat.reduceBEq, ↓z_x_eq, z_g_t, z_bI_s, z_bL_s, z_bR_s, z_bV_s, Int.cast_ofNat_Int, beq_self_eq_true, Bool.and_true, Bool.true_and, Bool.and_self, Bool.or_true, Bool.true_or, Bool.false_and, Bool.and_false, Bool.false_or, Bool.or_false, Bool.not_false, Bool.not_true, if_true, if_false, ite_true, ite_false, z_up_eq, z_up_app, z_ro_eq, c, ba, bb, c0', c1', e_Ga_secondWins, e1, zb_t, z_up_up]
      · have c1' : (i_bits a - i_bits b = 1) = False := eq_false (by omega)
        have hi2 := g_iv_no hg hi ⟨b32.1, hb⟩ (fun t ht hl => by omega)
        obtain ⟨V', W', s', ih, k1, k2⟩ := p_fi_116 d T G (y := y) hQ hf hg ha hai hH m (b + -1) V W s (by omega) (by omega) hv hi2
        refine ⟨V', W', s', ?_, k1, k2⟩
        rw [← ih, e_Ga_fight_116]
        simp -implicitDefEqProofs (disch := first | assumption | omega | rfl | (simp only [z_up_eq, z_up_app, ↓reduceIte, Nat.reduceEqDiff]; omega)) only [z_lit0, z_lit1, z_lit2, z_litl, iI_add, iI_sub, iI_mul, iI_neg, iI_and, iI_or, iI_xor, iI_shl, iI_shr, iI_ushr, iI_div, iI_b, iI_c, iI_i2l, lI_l2i, lI_add, lI_sub, lI_mul, lI_neg, lI_div, lI_or, lI_and, lI_shl, lI_shr, nI_iI, lg_lt0, lg_gt0, lg_eq0, i_ne0', l_ne0', iI_lt, iI_le, iI_eq, lI_lt, lI_le, lI_eq, zb_0, zb_fit, zb_fit0, zb_fit1, i_one_zero, i_w_in, z_tb0, z_tb1, z_tb2, z_tb3, z_tb4, z_tb5, z_tb6, z_tb7, z_tb8, z_tbl, z_tu0, z_tu1, z_tu2, z_i_62, z_i_63, z_i_86, z_i_88, z_l_Y, z_ui_62, z_ui_63, z_ui_86, z_ui_88, z_ul_Y, z_sz_Y, z_sw_Y, iI_nat, z_ix_t, z_at, Int.add_zero, Int.sub_zero, Int.zero_add, Int.mul_zero, ne_eq, Bool.false_eq_true, Bool.true_eq_false, reduceCtorEq, eq_self, and_true, true_and, and_false, false_and, and_self, not_true_eq_false, not_false_eq_true, decide_true, decide_false, ↓reduceIte, Int.reduceEq, Int.reduceNe, Int.reduceLT, Int.reduceLE, Int.reduceAdd, Int.reduceSub, Int.reduceMul, Int.reduceNeg, Nat.reduceAdd, Nat.reduceEqDiff, Nat.reduceBEq, ↓z_x_eq, z_g_t, z_bI_s, z_bL_s, z_bR_s, z_bV_s, Int.cast_ofNat_Int, beq_self_eq_true, Bool.and_true, Bool.true_and, Bool.and_self, Bool.or_true, Bool.true_or, Bool.false_and, Bool.and_false, Bool.false_or, Bool.or_false, Bool.not_false, Bool.not_true, if_true, if_false, ite_true, ite_false, z_up_eq, z_up_app, z_ro_eq, c, ba, bb, c0', c1']
theorem p_fi_95 (d : Nat) (T : ZT) (G : ZG) {no air : Int} {f g : Nat} {hs : Int → Bool} {y : Int} (hQ : c_q T G) (hf : f ≤ 5) (hg : g ≤ 5) (hai : ∀ a' b' : Int, 0 ≤ a' → a' < 2 ^ f → 0 ≤ b' → b' < 2 ^ g → -1000 ≤ air + G 77 a' + G 78 b' ∧ air + G 77 a' + G 78 b' ≤ 1000) (hH : ∀ a' b' : Int, 0 ≤ a' → a' < 2 ^ f → 0 ≤ b' → b' < 2 ^ g → m_holds (G 81) (G 83) (G 81 6) no (air + G 77 a' + G 78 b') (G 81 (82 + 2 * no)) = hs (a' + 2 ^ f * b')) : ∀ (m : Nat) (a : Int) (V W : Int → Int) (s : ZG × ZG), a + 1 = m → a < 2 ^ f → v_ok G no V → g_iv hs f g W (a + 1) (-1) → ∃ V' W' s', z_w d_Ga_fight (z_call (d + 5)) 95 [some (vr 70), none, none, none, some (vi (iI y)), none, some (vi (iI air)), some (vi (iI g)), some (vi (iI f)), some (vi (iI a)), none, none] [] (z_Y T (z_up (z_up G 64 V) 79 W) s) = z_w d_Ga_fight (z_call (d + 5)) 95 [some (vr 70), none, none, none, some (vi (iI y)), none, some (vi (iI air)), some (vi (iI g)), some (vi (iI f)), some (vi (iI (-1))), none, none] [] (z_Y T (z_up (z_up G 64 V') 79 W') s') ∧ v_ok G no V' ∧ g_iv hs f g W' 0 (-1)
  | 0, a, V, W, s, h, ha, hv, hi => by
    have e : a = -1 := by omega
    rw [e] at hi ⊢
    exact ⟨V, W, s, rfl, hv, hi⟩
  | m + 1, a, V, W, s, h, ha, hv, hi => by
    have a32 := g_b32 hf ⟨(by omega : 0 ≤ a), ha⟩
    have es := i_shl1 g (by omega)
    have q : ∀ k : Nat, k ≤ 5 → (1 : Int) ≤ 2 ^ k ∧ (2 : Int) ^ k ≤ 32 := by decide
    have pg := q g hg
    have c : (a < 0) = False := eq_false (by omega)
    have hi0 : g_iv hs f g (z_ro W a 0) a (2 ^ g - 1) := by
      refine ⟨fun a' b' q1 q2 q3 q4 q5 t ht hl => ?_, fun b' q1 q2 => ?_⟩
      · rw [z_ro_ne _ _ (by omega)]
        exact hi.1 a' b' q1 q2 q3 q4 (by omega) t ht hl
      · rw [z_ro_eq]; exact i_has_w0 ⟨q1, by omega⟩
    obtain ⟨V1, W1, s1, e1, hv1, hi1⟩ := p_fi_116 d T G (y := y) hQ hf hg ⟨a32.1, ha⟩ hai hH (2 ^ g) (2 ^ g - 1) V (z_ro W a 0) s (by simp) (by omega) hv hi0
    obtain ⟨V', W', s', ih, k1, k2⟩ := p_fi_95 d T G (y := y) hQ hf hg hai hH m (a + -1) V1 W1 s1 (by omega) (by omega) hv1 (by rw [show a + -1 + 1 = a by omega]; exact hi1)
    refine ⟨V', W', s', ?_, k1, k2⟩
    rw [← ih, ← e1, e_Ga_fight_95]
    simp -implicitDefEqProofs (disch := first | assumption | omega | rfl | (simp only [z_up_eq, z_up_app, ↓reduceIte, Nat.reduceEqDiff]; omega)) only [z_lit0, z_lit1, z_lit2, z_litl, iI_add, iI_sub, iI_mul, iI_neg, iI_and, iI_or, iI_xor, iI_shl, iI_shr, iI_ushr, iI_div, iI_b, iI_c, iI_i2l, lI_l2i, lI_add, lI_sub, lI_mul, lI_neg, lI_div, lI_or, lI_and, lI_shl, lI_shr, nI_iI, lg_lt0, lg_gt0, lg_eq0, i_ne0', l_ne0', iI_lt, iI_le, iI_eq, lI_lt, lI_le, lI_eq, zb_0, zb_fit, zb_fit0, zb_fit1, i_one_zero, i_w_in, z_tb0, z_tb1, z_tb2, z_tb3, z_tb4, z_tb5, z_tb6, z_tb7, z_tb8, z_tbl, z_tu0, z_tu1, z_tu2, z_i_62, z_i_63, z_i_86, z_i_88, z_l_Y, z_ui_62, z_ui_63, z_ui_86, z_ui_88, z_ul_Y, z_sz_Y, z_sw_Y, iI_nat, z_ix_t, z_at, Int.add_zero, Int.sub_zero, Int.zero_add, Int.mul_zero, ne_eq, Bool.false_eq_true, Bool.true_eq_false, reduceCtorEq, eq_self, and_true, true_and, and_false, false_and, and_self, not_true_eq_false, not_false_eq_true, decide_true, decide_false, ↓reduceIte, Int.reduceEq, Int.reduceNe, Int.reduceLT, Int.reduceLE, Int.reduceAdd, Int.reduceSub, Int.reduceMul, Int.reduceNeg, Nat.reduceAdd, Nat.reduceEqDiff, Nat.reduceBEq, ↓z_x_eq, z_g_t, z_bI_s, z_bL_s, z_bR_s, z_bV_s, Int.cast_ofNat_Int, beq_self_eq_true, Bool.and_true, Bool.true_and, Bool.and_self, Bool.or_true, Bool.true_or, Bool.false_and, Bool.and_false, Bool.false_or, Bool.or_false, Bool.not_false, Bool.not_true, if_true, if_false, ite_true, ite_false, z_up_eq, z_up_app, z_ro_eq, c, es, z_up_up]

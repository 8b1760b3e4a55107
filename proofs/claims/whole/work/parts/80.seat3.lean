/-! THE PURE PART, 60: seated, the model's side -/
theorem s_lay_lo (x : Int) : ∀ (f : Nat) (i c : Int) (W : Int → Int), ∀ k, k < c → (s_lay x f i c W).2 k = W k
  | 0, _, _, _, _, _ => rfl
  | f + 1, i, c, W, k, h => by
    show (cond (i_has x i) (s_lay x f (i + 1) (c + 1) (z_ro W c i)) (s_lay x f (i + 1) c W)).2 k = W k
    cases i_has x i
    · exact s_lay_lo x f (i + 1) c W k h
    · show (s_lay x f (i + 1) (c + 1) (z_ro W c i)).2 k = W k
      rw [s_lay_lo x f (i + 1) (c + 1) _ k (by omega), z_ro_ne _ _ (by omega)]
theorem s_lay_sur (x : Int) : ∀ (f : Nat) (i c : Int) (W : Int → Int) (p : Int), i ≤ p → p < i + f → i_has x p = true → ∃ k, c ≤ k ∧ k < c + z_cnt f i (i_has x) ∧ (s_lay x f i c W).2 k = p
  | 0, i, c, W, p, a, b, h => by omega
  | f + 1, i, c, W, p, a, b, h => by
    show ∃ k, c ≤ k ∧ k < c + (zb (i_has x i) + z_cnt f (i + 1) (i_has x)) ∧ (cond (i_has x i) (s_lay x f (i + 1) (c + 1) (z_ro W c i)) (s_lay x f (i + 1) c W)).2 k = p
    have hz := (z_cnt_in (i_has x) f (i + 1)).1
    by_cases e : p = i
    · rw [← e, h]
      refine ⟨c, by omega, by rw [zb_t, e]; omega, ?_⟩
      show (s_lay x f (p + 1) (c + 1) (z_ro W c p)).2 c = p
      rw [s_lay_lo x f (p + 1) (c + 1) _ c (by omega), z_ro_eq]
    · cases hb : i_has x i
      · obtain ⟨k, k1, k2, k3⟩ := s_lay_sur x f (i + 1) c W p (by omega) (by omega) h
        exact ⟨k, k1, by rw [zb_f]; omega, k3⟩
      · obtain ⟨k, k1, k2, k3⟩ := s_lay_sur x f (i + 1) (c + 1) (z_ro W c i) p (by omega) (by omega) h
        exact ⟨k, by omega, by rw [zb_t]; omega, k3⟩
/-- a list of members: each in the set, none twice, none left out -/
def s_mem (x : Int) (n : Nat) (M : Int → Int) : Prop := (∀ k : Int, 0 ≤ k → k < n → 0 ≤ M k ∧ M k < 10 ∧ i_has x (M k) = true) ∧ (∀ k k' : Int, 0 ≤ k → k < k' → k' < n → M k < M k') ∧ ∀ p : Int, 0 ≤ p → p < 10 → i_has x p = true → ∃ k : Int, 0 ≤ k ∧ k < n ∧ M k = p
theorem s_mem_lay {x : Int} {n : Nat} (hn : (n : Int) = z_cnt 10 0 (i_has x)) (W : Int → Int) : s_mem x n (s_lay x 10 0 0 W).2 := by
  refine ⟨fun k a b => ?_, fun k k' a b c => ?_, fun p a b h => ?_⟩
  · have := s_lay_in x 10 0 0 W (by omega) (fun k a b => by omega) (by omega) k a (by omega)
    exact ⟨this.1, by omega, this.2.2⟩
  · exact s_lay_inj x 10 0 0 W (by omega) (fun k a b => by omega) (fun k k' a b c => by omega) k k' a b (by omega)
  · obtain ⟨k, k1, k2, k3⟩ := s_lay_sur x 10 0 0 W p a (by omega) h
    exact ⟨k, k1, by omega, k3⟩
theorem s_mem_ix {x : Int} {n : Nat} {M : Int → Int} (h : s_mem x n M) {k : Int} (hk : 0 ≤ k ∧ k < n) : s_ix M n (M k) = k := by
  refine z_find_one _ _ hk.1 (by omega) (decide_eq_true rfl) (fun j a b => decide_eq_false (fun e => ?_))
  have := h.2.1 j k a b hk.2
  omega
theorem s_mem_sum {x : Int} {F : Int → Int} : ∀ (f : Nat) (i c : Int) (W : Int → Int) (m : Nat), (m : Int) = z_cnt f i (i_has x) → z_sum m c (fun k => F ((s_lay x f i c W).2 k)) = z_sum f i (fun p => if i_has x p = true then F p else 0)
  | 0, i, c, W, m, h => by
    have : m = 0 := by have h' : (m : Int) = 0 := h; omega
    rw [this]; rfl
  | f + 1, i, c, W, m, h => by
    have h' : (m : Int) = zb (i_has x i) + z_cnt f (i + 1) (i_has x) := h
    have hz := (z_cnt_in (i_has x) f (i + 1)).1
    show z_sum m c (fun k => F ((cond (i_has x i) (s_lay x f (i + 1) (c + 1) (z_ro W c i)) (s_lay x f (i + 1) c W)).2 k)) = (if i_has x i = true then F i else 0) + z_sum f (i + 1) (fun p => if i_has x p = true then F p else 0)
    cases hb : i_has x i
    · rw [hb, zb_f] at h'
      rw [if_neg (by decide), Int.zero_add]
      exact s_mem_sum f (i + 1) c W m (by omega)
    · rw [hb, zb_t] at h'
      obtain ⟨m', e⟩ : ∃ m', m = m' + 1 := ⟨m - 1, by omega⟩
      rw [e, if_pos rfl]
      show F ((s_lay x f (i + 1) (c + 1) (z_ro W c i)).2 c) + z_sum m' (c + 1) (fun k => F ((s_lay x f (i + 1) (c + 1) (z_ro W c i)).2 k)) = _
      rw [s_lay_lo x f (i + 1) (c + 1) _ c (by omega), z_ro_eq, s_mem_sum f (i + 1) (c + 1) (z_ro W c i) m' (by omega)]
theorem z_sum_more {f : Int → Int} : ∀ (n m : Nat) (i : Int), (∀ k, i + n ≤ k → k < i + n + m → f k = 0) → z_sum (n + m) i f = z_sum n i f
  | 0, 0, _, _ => rfl
  | 0, m + 1, i, h => by
    rw [Nat.zero_add]
    show f i + z_sum m (i + 1) f = 0
    have := z_sum_more 0 m (i + 1) (fun k a b => h k (by omega) (by omega))
    rw [Nat.zero_add] at this
    rw [this, h i (by omega) (by omega)]; rfl
  | n + 1, m, i, h => by
    rw [show n + 1 + m = (n + m) + 1 by omega]
    show f i + z_sum (n + m) (i + 1) f = f i + z_sum n (i + 1) f
    rw [z_sum_more n m (i + 1) (fun k a b => h k (by omega) (by omega))]
theorem i_has_le : ∀ x : Nat, x < 1024 → ∀ p : Nat, p < 10 → i_has x p = true → 2 ^ p ≤ x := by decide +kernel
theorem i_has_lt {x N p : Int} (hN : 0 ≤ N ∧ N ≤ 10) (hx : 0 ≤ x ∧ x < i_shl 1 N) (hp : 0 ≤ p ∧ p < 10) (h : i_has x p = true) : p < N := by
  have h10 := i_shl10 hN
  have e := i_shl1 N.toNat (by omega)
  rw [show ((N.toNat : Nat) : Int) = N by omega] at e
  have h1 := i_has_le x.toNat (by omega) p.toNat (by omega)
  rw [show ((x.toNat : Nat) : Int) = x by omega, show ((p.toNat : Nat) : Int) = p by omega] at h1
  have h2 := h1 h
  by_cases c : p < N
  · exact c
  · exfalso
    have h3 : 2 ^ N.toNat ≤ 2 ^ p.toNat := Nat.pow_le_pow_right (by omega) (by omega)
    have h4 : (x.toNat : Int) < ((2 ^ N.toNat : Nat) : Int) := by
      rw [e] at hx
      rw [show ((2 ^ N.toNat : Nat) : Int) = (2 : Int) ^ N.toNat by simp]
      omega
    omega
/-- where one would sit -/
def s_s1 (A : Int → Int) (y p : Int) : Int := if A (32 + 5 * p + 3) ≠ -1 ∧ i_has y (A (32 + 5 * p + 3)) = true then -1 else A (32 + 5 * p + 3)
def s_sL (A M P : Int → Int) (x y : Int) (n : Nat) (E : Int → Int) (p : Int) : Int := if i_has x p = true then P (E (s_ix M n p)) else s_s1 A y p
theorem s_air_eq {A X P : Int → Int} {x y b : Int} {n : Nat} {E W : Int → Int} (hM : m_ok A) (hn : (n : Int) = z_cnt 10 0 (i_has x)) (hx : 0 ≤ x ∧ x < i_shl 1 (A 1)) : z_sum (A 1).toNat 0 (fun p => t_breath A X p b (s_sL A (s_lay x 10 0 0 W).2 P x y n E p) (A (32 + 5 * p + 4)) (A 8) (A (32 + 5 * p + 2))) = s_air A X (s_lay x 10 0 0 W).2 P x y b n E := by
  have m1 := hM.2.1
  have hm := s_mem_lay hn W
  have q := s_mem_sum (x := x) (F := fun p => t_breath A X p b (P (E (s_ix (s_lay x 10 0 0 W).2 n p))) (A (32 + 5 * p + 4)) (A 8) (A (32 + 5 * p + 2))) 10 0 0 W n hn
  unfold s_air
  have e1 : z_sum n 0 (fun i => s_tb A X (s_lay x 10 0 0 W).2 P b i (E i)) = z_sum n 0 (fun k => t_breath A X ((s_lay x 10 0 0 W).2 k) b (P (E (s_ix (s_lay x 10 0 0 W).2 n ((s_lay x 10 0 0 W).2 k)))) (A (32 + 5 * (s_lay x 10 0 0 W).2 k + 4)) (A 8) (A (32 + 5 * (s_lay x 10 0 0 W).2 k + 2))) := by
    refine z_sum_eq _ _ (fun k a c => ?_)
    rw [s_mem_ix hm ⟨a, by omega⟩]; rfl
  rw [e1, q]
  rw [show (10 : Nat) = (A 1).toNat + (10 - (A 1).toNat) by omega, z_sum_more (A 1).toNat (10 - (A 1).toNat) 0 (fun k a c => by
    rw [if_neg]
    intro h
    have := i_has_lt m1 hx (p := k) (by omega) h
    omega), z_sum_add]
  refine z_sum_eq _ _ (fun p a c => ?_)
  unfold s_sL s_oth s_s1
  by_cases c1 : i_has x p = true
  · rw [if_pos c1, if_pos (Or.inl c1), if_pos c1, Int.zero_add]
  · rw [if_neg c1, if_neg c1, Int.add_zero]
    by_cases c2 : A (32 + 5 * p + 3) = -1
    · rw [if_neg (fun q => q.1 c2), if_pos (Or.inr (Or.inl c2)), c2]
      unfold t_breath
      rw [if_pos (Or.inl rfl)]
    · by_cases c3 : i_has y (A (32 + 5 * p + 3)) = true
      · rw [if_pos ⟨c2, c3⟩, if_pos (Or.inr (Or.inr c3))]
        unfold t_breath
        rw [if_pos (Or.inl rfl)]
      · rw [if_neg (fun q => c3 q.2), if_neg (fun q => by rcases q with q | q | q; exact c1 q; exact c2 q; exact c3 q)]
def s_fr (A R : Int → Int) : Prop := ∀ k, (∀ p, 0 ≤ p → p < A 1 → k ≠ 32 + 5 * p + 3) → R k = A k
theorem s_fr_set {A R : Int → Int} (h : s_fr A R) {p v : Int} (hp : 0 ≤ p ∧ p < A 1) : s_fr A (z_ro R (32 + 5 * p + 3) v) := fun k a => by
  rw [z_ro_ne _ _ (a p hp.1 hp.2)]; exact h k a
theorem s_fr_ag {A R : Int → Int} (h : s_fr A R) (m1 : A 1 ≤ 10) : m_ag A R := ⟨fun k a b => h k (fun p c e => by omega), fun q a b => ⟨h _ (fun p c e => by omega), h _ (fun p c e => by omega)⟩⟩
theorem s_fr_ok {A R : Int → Int} (hM : m_ok A) (h : s_fr A R) (hs : ∀ p, 0 ≤ p → p < A 1 → -1 ≤ R (32 + 5 * p + 3) ∧ R (32 + 5 * p + 3) < A 0) : m_ok R := by
  have m1 := hM.2.1
  refine ag_ok hM (s_fr_ag h m1.2) (by rw [h 8 (fun p c e => by omega)]; exact hM.2.2.2.2.2.2.2.2.1) (fun p a b => ?_)
  have mp := mo_p hM p a b
  rw [h (32 + 5 * p + 2) (fun q c e => by omega), h (32 + 5 * p + 4) (fun q c e => by omega)]
  exact ⟨mp.2.2.1, hs p a b, mp.2.2.2.2⟩
/-- how many hold, as the model counts it -/
theorem s_many {A X P R W : Int → Int} {x y hb : Int} {n : Nat} {L : List Nat} (hM : m_ok A) (hn : (n : Int) = z_cnt 10 0 (i_has x)) (hx : 0 ≤ x ∧ x < i_shl 1 (A 1)) (h : s_fr A R) (hR : m_ok R) (hs : ∀ p, 0 ≤ p → p < A 1 → R (32 + 5 * p + 3) = s_sL A (s_lay x 10 0 0 W).2 P x y n (o_e L) p) : m_many R X (-1) hb 0 = s_hc A X (s_lay x 10 0 0 W).2 P x y n (A 2).toNat 0 L := by
  have m1 := hM.2.1
  have m2 := hM.2.2.1
  have hag := s_fr_ag h m1.2
  have e2 : R 2 = A 2 := h 2 (fun p c e => by omega)
  have e6 : R 6 = A 6 := h 6 (fun p c e => by omega)
  unfold m_many s_hc
  rw [e2]
  refine z_cnt_eq _ _ (fun no a b => ?_)
  have eb : R (82 + 2 * no) = A (82 + 2 * no) := h _ (fun p c e => by omega)
  unfold m_held
  rw [m_air_0, eb, Int.add_zero, e6, ag_holds hag a, ag_air hM hR hag]
  congr 1
  rw [← s_air_eq hM hn hx]
  refine z_sum_eq _ _ (fun p c e => ?_)
  rw [hs p c (by omega), h (32 + 5 * p + 4) (fun q c e => by omega), h 8 (fun q c e => by omega), h (32 + 5 * p + 2) (fun q c e => by omega)]
theorem p_mb_4 (d : Nat) (T : ZT) (G : ZG) (s : ZG × ZG) {A : Int → Int} {y : Int} (hM : m_ok A) : ∀ (m : Nat) (p : Int) (R S : Int → Int), 0 ≤ p → p + m = A 1 → s_fr A R → (∀ q, 0 ≤ q → q < p → R (32 + 5 * q + 3) = s_s1 A y q ∧ S q = A (32 + 5 * q + 3)) → (∀ q, p ≤ q → q < A 1 → R (32 + 5 * q + 3) = A (32 + 5 * q + 3)) → ∃ R' S', z_w d_M_bestSeats (z_call (d + 1)) 4 [some (vr 80), some (vi (iI y)), some (vi (iI (-1))), some (vi (iI p)), none, none] [] (z_Y T (z_up (z_up G 81 R) 93 S) s) = z_w d_M_bestSeats (z_call (d + 1)) 64 [some (vr 80), none, some (vi (iI (-1))), some (vi (iI 1)), none, none] [] (z_Y T (z_up (z_up G 81 R') 93 S') s) ∧ s_fr A R' ∧ ∀ q, 0 ≤ q → q < A 1 → R' (32 + 5 * q + 3) = s_s1 A y q ∧ S' q = A (32 + 5 * q + 3)
  | 0, p, R, S, h0, h, hf, h1, h2 => by
    have m1 := hM.2.1
    have e1 : R 1 = A 1 := hf 1 (fun p c e => by omega)
    have c : (p < A 1) = False := eq_false (by omega)
    refine ⟨R, S, ?_, hf, fun q a b => h1 q a (by omega)⟩
    rw [e_M_bestSeats_4]
    simp -implicitDefEqProofs (disch := first | assumption | omega | rfl | (simp only [z_up_eq, z_up_app, ↓reduceIte, Nat.reduceEqDiff]; omega)) only [z_lit0, z_lit1, z_lit2, z_litl, iI_add, iI_sub, iI_mul, iI_neg, iI_and, iI_or, iI_xor, iI_shl, iI_shr, iI_ushr, iI_div, iI_b, iI_c, iI_i2l, lI_l2i, lI_add, lI_sub, lI_mul, lI_neg, lI_div, lI_or, lI_and, lI_shl, lI_shr, nI_iI, lg_lt0, lg_gt0, lg_eq0, i_ne0', l_ne0', iI_lt, iI_le, iI_eq, lI_lt, lI_le, lI_eq, zb_0, zb_fit, zb_fit0, zb_fit1, i_one_zero, i_w_in, z_tb0, z_tb1, z_tb2, z_tb3, z_tb4, z_tb5, z_tb6, z_tb7, z_tb8, z_tbl, z_tu0, z_tu1, z_tu2, z_i_62, z_i_63, z_i_86, z_i_88, z_l_Y, z_ui_62, z_ui_63, z_ui_86, z_ui_88, z_ul_Y, z_sz_Y, z_sw_Y, iI_nat, z_ix_t, z_at, Int.add_zero, Int.sub_zero, Int.zero_add, Int.mul_zero, ne_eq, Bool.false_eq_true, Bool.true_eq_false, reduceCtorEq, eq_self, and_true, true_and, and_false, false_and, and_self, not_true_eq_false, not_false_eq_true, decide_true, decide_false, ↓reduceIte, Int.reduceEq, Int.reduceNe, Int.reduceLT, Int.reduceLE, Int.reduceAdd, Int.reduceSub, Int.reduceMul, Int.reduceNeg, Nat.reduceAdd, Nat.reduceEqDiff, Nat.reduceBEq, ↓z_x_eq, z_g_t, z_bI_s, z_bL_s, z_bR_s, z_bV_s, Int.cast_ofNat_Int, beq_self_eq_true, Bool.and_true, Bool.true_and, Bool.and_self, Bool.or_true, Bool.true_or, Bool.false_and, Bool.and_false, Bool.false_or, Bool.or_false, Bool.not_false, Bool.not_true, if_true, if_false, ite_true, ite_false, z_up_eq, z_up_app, z_ro_eq, e1, c]
  | m + 1, p, R, S, h0, h, hf, h1, h2 => by
    have m1 := hM.2.1
    have m0 := hM.1
    have e1 : R 1 = A 1 := hf 1 (fun p c e => by omega)
    have c : (p < A 1) = True := eq_true (by omega)
    have mp := (mo_p hM p h0 (by omega)).2.2.2.1
    have er := h2 p (by omega) (by omega)
    have S2 : ∀ q, 0 ≤ q → q < p + 1 → z_ro S p (A (32 + 5 * p + 3)) q = A (32 + 5 * q + 3) := fun q a b => by
      by_cases e : q = p
      · rw [e, z_ro_eq]
      · rw [z_ro_ne _ _ e]; exact (h1 q a (by omega)).2
    have gt := fun S s => p_get d T (z_up (z_up G 81 R) 93 S) s (p := p) (w := 3) (by omega)
    have e81 : ∀ S, z_up (z_up G 81 R) 93 S 81 = R := fun S => by rw [z_up_ne _ _ (by omega), z_up_eq]
    simp only [e81, er] at gt
    by_cases c1 : A (32 + 5 * p + 3) = -1
    · have es : s_s1 A y p = A (32 + 5 * p + 3) := if_neg (fun q => q.1 c1)
      obtain ⟨R', S', ih, k1, k2⟩ := p_mb_4 d T G s (y := y) hM m (p + 1) R (z_ro S p (A (32 + 5 * p + 3))) (by omega) (by omega) hf (fun q a b => ⟨by
        by_cases e : q = p
        · rw [e, es, er]
        · exact (h1 q a (by omega)).1, S2 q a b⟩) (fun q a b => h2 q (by omega) b)
      rw [c1] at gt ih
      refine ⟨R', S', ?_, k1, k2⟩
      rw [← ih, e_M_bestSeats_4]
      simp -implicitDefEqProofs (disch := first | assumption | omega | rfl | (simp only [z_up_eq, z_up_app, ↓reduceIte, Nat.reduceEqDiff]; omega)) only [z_lit0, z_lit1, z_lit2, z_litl, iI_add, iI_sub, iI_mul, iI_neg, iI_and, iI_or, iI_xor, iI_shl, iI_shr, iI_ushr, iI_div, iI_b, iI_c, iI_i2l, lI_l2i, lI_add, lI_sub, lI_mul, lI_neg, lI_div, lI_or, lI_and, lI_shl, lI_shr, nI_iI, lg_lt0, lg_gt0, lg_eq0, i_ne0', l_ne0', iI_lt, iI_le, iI_eq, lI_lt, lI_le, lI_eq, zb_0, zb_fit, zb_fit0, zb_fit1, i_one_zero, i_w_in, z_tb0, z_tb1, z_tb2, z_tb3, z_tb4, z_tb5, z_tb6, z_tb7, z_tb8, z_tbl, z_tu0, z_tu1, z_tu2, z_i_62, z_i_63, z_i_86, z_i_88, z_l_Y, z_ui_62, z_ui_63, z_ui_86, z_ui_88, z_ul_Y, z_sz_Y, z_sw_Y, iI_nat, z_ix_t, z_at, Int.add_zero, Int.sub_zero, Int.zero_add, Int.mul_zero, ne_eq, Bool.false_eq_true, Bool.true_eq_false, reduceCtorEq, eq_self, and_true, true_and, and_false, false_and, and_self, not_true_eq_false, not_false_eq_true, decide_true, decide_false, ↓reduceIte, Int.reduceEq, Int.reduceNe, Int.reduceLT, Int.reduceLE, Int.reduceAdd, Int.reduceSub, Int.reduceMul, Int.reduceNeg, Nat.reduceAdd, Nat.reduceEqDiff, Nat.reduceBEq, ↓z_x_eq, z_g_t, z_bI_s, z_bL_s, z_bR_s, z_bV_s, Int.cast_ofNat_Int, beq_self_eq_true, Bool.and_true, Bool.true_and, Bool.and_self, Bool.or_true, Bool.true_or, Bool.false_and, Bool.and_false, Bool.false_or, Bool.or_false, Bool.not_false, Bool.not_true, if_true, if_false, ite_true, ite_false, z_up_eq, z_up_app, z_ro_eq, e1, c, gt, z_up_up]
    · have ps := fun S s => p_set d T (z_up (z_up G 81 R) 93 S) s (p := p) (w := 3) (v := -1) (by omega)
      simp only [e81] at ps
      cases c2 : i_has y (A (32 + 5 * p + 3))
      · have es : s_s1 A y p = A (32 + 5 * p + 3) := if_neg (fun q => by rw [c2] at q; exact absurd q.2 (by decide))
        obtain ⟨R', S', ih, k1, k2⟩ := p_mb_4 d T G s (y := y) hM m (p + 1) R (z_ro S p (A (32 + 5 * p + 3))) (by omega) (by omega) hf (fun q a b => ⟨by
          by_cases e : q = p
          · rw [e, es, er]
          · exact (h1 q a (by omega)).1, S2 q a b⟩) (fun q a b => h2 q (by omega) b)
        refine ⟨R', S', ?_, k1, k2⟩
        rw [← ih, e_M_bestSeats_4]
        simp -implicitDefEqProofs (disch := first | assumption | omega | rfl | (simp only [z_up_eq, z_up_app, ↓reduceIte, Nat.reduceEqDiff]; omega)) only [z_lit0, z_lit1, z_lit2, z_litl, iI_add, iI_sub, iI_mul, iI_neg, iI_and, iI_or, iI_xor, iI_shl, iI_shr, iI_ushr, iI_div, iI_b, iI_c, iI_i2l, lI_l2i, lI_add, lI_sub, lI_mul, lI_neg, lI_div, lI_or, lI_and, lI_shl, lI_shr, nI_iI, lg_lt0, lg_gt0, lg_eq0, i_ne0', l_ne0', iI_lt, iI_le, iI_eq, lI_lt, lI_le, lI_eq, zb_0, zb_fit, zb_fit0, zb_fit1, i_one_zero, i_w_in, z_tb0, z_tb1, z_tb2, z_tb3, z_tb4, z_tb5, z_tb6, z_tb7, z_tb8, z_tbl, z_tu0, z_tu1, z_tu2, z_i_62, z_i_63, z_i_86, z_i_88, z_l_Y, z_ui_62, z_ui_63, z_ui_86, z_ui_88, z_ul_Y, z_sz_Y, z_sw_Y, iI_nat, z_ix_t, z_at, Int.add_zero, Int.sub_zero, Int.zero_add, Int.mul_zero, ne_eq, Bool.false_eq_true, Bool.true_eq_false, reduceCtorEq, eq_self, and_true, true_and, and_false, false_and, and_self, not_true_eq_false, not_false_eq_true, decide_true, decide_false, ↓reduceIte, Int.reduceEq, Int.reduceNe, Int.reduceLT, Int.reduceLE, Int.reduceAdd, Int.reduceSub, Int.reduceMul, Int.reduceNeg, Nat.reduceAdd, Nat.reduceEqDiff, Nat.reduceBEq, ↓z_x_eq, z_g_t, z_bI_s, z_bL_s, z_bR_s, z_bV_s, Int.cast_ofNat_Int, beq_self_eq_true, Bool.and_true, Bool.true_and, Bool.and_self, Bool.or_true, Bool.true_or, Bool.false_and, Bool.and_false, Bool.false_or, Bool.or_false, Bool.not_false, Bool.not_true, if_true, if_false, ite_true, ite_false, z_up_eq, z_up_app, z_ro_eq, e1, c, gt, z_up_up, c1, p_mhas, c2, zb_f]
      · have es : s_s1 A y p = -1 := if_pos ⟨c1, c2⟩
        obtain ⟨R', S', ih, k1, k2⟩ := p_mb_4 d T G s (y := y) hM m (p + 1) (z_ro R (32 + 5 * p + 3) (-1)) (z_ro S p (A (32 + 5 * p + 3))) (by omega) (by omega) (s_fr_set hf ⟨h0, by omega⟩) (fun q a b => ⟨by
          by_cases e : q = p
          · rw [e, es, z_ro_eq]
          · rw [z_ro_ne _ _ (by omega)]; exact (h1 q a (by omega)).1, S2 q a b⟩) (fun q a b => by rw [z_ro_ne _ _ (by omega)]; exact h2 q (by omega) b)
        refine ⟨R', S', ?_, k1, k2⟩
        rw [← ih, e_M_bestSeats_4]
        simp -implicitDefEqProofs (disch := first | assumption | omega | rfl | (simp only [z_up_eq, z_up_app, ↓reduceIte, Nat.reduceEqDiff]; omega)) only [z_lit0, z_lit1, z_lit2, z_litl, iI_add, iI_sub, iI_mul, iI_neg, iI_and, iI_or, iI_xor, iI_shl, iI_shr, iI_ushr, iI_div, iI_b, iI_c, iI_i2l, lI_l2i, lI_add, lI_sub, lI_mul, lI_neg, lI_div, lI_or, lI_and, lI_shl, lI_shr, nI_iI, lg_lt0, lg_gt0, lg_eq0, i_ne0', l_ne0', iI_lt, iI_le, iI_eq, lI_lt, lI_le, lI_eq, zb_0, zb_fit, zb_fit0, zb_fit1, i_one_zero, i_w_in, z_tb0, z_tb1, z_tb2, z_tb3, z_tb4, z_tb5, z_tb6, z_tb7, z_tb8, z_tbl, z_tu0, z_tu1, z_tu2, z_i_62, z_i_63, z_i_86, z_i_88, z_l_Y, z_ui_62, z_ui_63, z_ui_86, z_ui_88, z_ul_Y, z_sz_Y, z_sw_Y, iI_nat, z_ix_t, z_at, Int.add_zero, Int.sub_zero, Int.zero_add, Int.mul_zero, ne_eq, Bool.false_eq_true, Bool.true_eq_false, reduceCtorEq, eq_self, and_true, true_and, and_false, false_and, and_self, not_true_eq_false, not_false_eq_true, decide_true, decide_false, ↓reduceIte, Int.reduceEq, Int.reduceNe, Int.reduceLT, Int.reduceLE, Int.reduceAdd, Int.reduceSub, Int.reduceMul, Int.reduceNeg, Nat.reduceAdd, Nat.reduceEqDiff, Nat.reduceBEq, ↓z_x_eq, z_g_t, z_bI_s, z_bL_s, z_bR_s, z_bV_s, Int.cast_ofNat_Int, beq_self_eq_true, Bool.and_true, Bool.true_and, Bool.and_self, Bool.or_true, Bool.true_or, Bool.false_and, Bool.and_false, Bool.false_or, Bool.or_false, Bool.not_false, Bool.not_true, if_true, if_false, ite_true, ite_false, z_up_eq, z_up_app, z_ro_eq, e1, c, gt, z_up_up, z_up_cm, c1, p_mhas, c2, zb_t, ps]
theorem p_mb_71 (d : Nat) (T : ZT) (G : ZG) (s : ZG × ZG) {A M P E : Int → Int} {x : Int} {n : Nat} {mo : Int} (hM : m_ok A) (hn : n ≤ 5) (h31 : G 80 31 = n) (h89 : G 89 = M) (h90 : G 90 = P) (hmem : s_mem x n M) (hlt : ∀ k : Int, 0 ≤ k → k < n → M k < A 1) (hO : o_ag n (G 91) E) (hE : ∀ i : Int, 0 ≤ i → i < n → 0 ≤ E i ∧ E i < n) : ∀ (m : Nat) (k : Int) (R : Int → Int), 0 ≤ k → k + m = n → s_fr A R → (∀ j : Int, 0 ≤ j → j < k → R (32 + 5 * M j + 3) = P (E j)) → ∃ R', z_w d_M_bestSeats (z_call (d + 1)) 71 [some (vr 80), none, some (vi (iI mo)), none, some (vi (iI k)), none] [] (z_Y T (z_up G 81 R) s) = z_bI (z_call (d + 1) 250 [vr 80, vi (iI 0)] (z_Y T (z_up G 81 R') s)) (fun v2 σ1 => z_w d_M_bestSeats (z_call (d + 1)) 120 [some (vr 80), none, some (vi (iI mo)), none, some (vi v2), some (vi (iI 0))] [] σ1) ∧ s_fr A R' ∧ (∀ j : Int, 0 ≤ j → j < n → R' (32 + 5 * M j + 3) = P (E j)) ∧ ∀ p, 0 ≤ p → p < 10 → i_has x p = false → R' (32 + 5 * p + 3) = R (32 + 5 * p + 3)
  | 0, k, R, h0, h, hf, h1 => by
    have c : (k < n) = False := eq_false (by omega)
    refine ⟨R, ?_, hf, fun j a b => h1 j a (by omega), fun p _ _ _ => rfl⟩
    rw [e_M_bestSeats_71]
    simp -implicitDefEqProofs (disch := first | assumption | omega | rfl | (simp only [z_up_eq, z_up_app, ↓reduceIte, Nat.reduceEqDiff]; omega)) only [z_lit0, z_lit1, z_lit2, z_litl, iI_add, iI_sub, iI_mul, iI_neg, iI_and, iI_or, iI_xor, iI_shl, iI_shr, iI_ushr, iI_div, iI_b, iI_c, iI_i2l, lI_l2i, lI_add, lI_sub, lI_mul, lI_neg, lI_div, lI_or, lI_and, lI_shl, lI_shr, nI_iI, lg_lt0, lg_gt0, lg_eq0, i_ne0', l_ne0', iI_lt, iI_le, iI_eq, lI_lt, lI_le, lI_eq, zb_0, zb_fit, zb_fit0, zb_fit1, i_one_zero, i_w_in, z_tb0, z_tb1, z_tb2, z_tb3, z_tb4, z_tb5, z_tb6, z_tb7, z_tb8, z_tbl, z_tu0, z_tu1, z_tu2, z_i_62, z_i_63, z_i_86, z_i_88, z_l_Y, z_ui_62, z_ui_63, z_ui_86, z_ui_88, z_ul_Y, z_sz_Y, z_sw_Y, iI_nat, z_ix_t, z_at, Int.add_zero, Int.sub_zero, Int.zero_add, Int.mul_zero, ne_eq, Bool.false_eq_true, Bool.true_eq_false, reduceCtorEq, eq_self, and_true, true_and, and_false, false_and, and_self, not_true_eq_false, not_false_eq_true, decide_true, decide_false, ↓reduceIte, Int.reduceEq, Int.reduceNe, Int.reduceLT, Int.reduceLE, Int.reduceAdd, Int.reduceSub, Int.reduceMul, Int.reduceNeg, Nat.reduceAdd, Nat.reduceEqDiff, Nat.reduceBEq, ↓z_x_eq, z_g_t, z_bI_s, z_bL_s, z_bR_s, z_bV_s, Int.cast_ofNat_Int, beq_self_eq_true, Bool.and_true, Bool.true_and, Bool.and_self, Bool.or_true, Bool.true_or, Bool.false_and, Bool.and_false, Bool.false_or, Bool.or_false, Bool.not_false, Bool.not_true, if_true, if_false, ite_true, ite_false, z_up_eq, z_up_app, z_ro_eq, h31, c]
  | m + 1, k, R, h0, h, hf, h1 => by
    have m1 := hM.2.1
    have c : (k < n) = True := eq_true (by omega)
    have eo := hO k h0 (by omega)
    have le := hE k h0 (by omega)
    have hm := hmem.1 k h0 (by omega)
    have ps := p_set d T (z_up G 81 R) s (p := M k) (w := 3) (v := P (E k)) (by omega)
    rw [z_up_eq, z_up_up] at ps
    obtain ⟨R', ih, k1, k2, k3⟩ := p_mb_71 d T G s (mo := mo) hM hn h31 h89 h90 hmem hlt hO hE m (k + 1) (z_ro R (32 + 5 * M k + 3) (P (E k))) (by omega) (by omega) (s_fr_set hf ⟨hm.1, hlt k h0 (by omega)⟩) (fun j a b => by
      by_cases e : j = k
      · rw [e, z_ro_eq]
      · have := hmem.2.1 j k a (by omega) (by omega)
        rw [z_ro_ne _ _ (by omega)]; exact h1 j a (by omega))
    refine ⟨R', ?_, k1, k2, fun p a b e => ?_⟩
    · rw [← ih, e_M_bestSeats_71]
      simp -implicitDefEqProofs (disch := first | assumption | omega | rfl | (simp only [z_up_eq, z_up_app, ↓reduceIte, Nat.reduceEqDiff]; omega)) only [z_lit0, z_lit1, z_lit2, z_litl, iI_add, iI_sub, iI_mul, iI_neg, iI_and, iI_or, iI_xor, iI_shl, iI_shr, iI_ushr, iI_div, iI_b, iI_c, iI_i2l, lI_l2i, lI_add, lI_sub, lI_mul, lI_neg, lI_div, lI_or, lI_and, lI_shl, lI_shr, nI_iI, lg_lt0, lg_gt0, lg_eq0, i_ne0', l_ne0', iI_lt, iI_le, iI_eq, lI_lt, lI_le, lI_eq, zb_0, zb_fit, zb_fit0, zb_fit1, i_one_zero, i_w_in, z_tb0, z_tb1, z_tb2, z_tb3, z_tb4, z_tb5, z_tb6, z_tb7, z_tb8, z_tbl, z_tu0, z_tu1, z_tu2, z_i_62, z_i_63, z_i_86, z_i_88, z_l_Y, z_ui_62, z_ui_63, z_ui_86, z_ui_88, z_ul_Y, z_sz_Y, z_sw_Y, iI_nat, z_ix_t, z_at, Int.add_zero, Int.sub_zero, Int.zero_add, Int.mul_zero, ne_eq, Bool.false_eq_true, Bool.true_eq_false, reduceCtorEq, eq_self, and_true, true_and, and_false, false_and, and_self, not_true_eq_false, not_false_eq_true, decide_true, decide_false, ↓reduceIte, Int.reduceEq, Int.reduceNe, Int.reduceLT, Int.reduceLE, Int.reduceAdd, Int.reduceSub, Int.reduceMul, Int.reduceNeg, Nat.reduceAdd, Nat.reduceEqDiff, Nat.reduceBEq, ↓z_x_eq, z_g_t, z_bI_s, z_bL_s, z_bR_s, z_bV_s, Int.cast_ofNat_Int, beq_self_eq_true, Bool.and_true, Bool.true_and, Bool.and_self, Bool.or_true, Bool.true_or, Bool.false_and, Bool.and_false, Bool.false_or, Bool.or_false, Bool.not_false, Bool.not_true, if_true, if_false, ite_true, ite_false, z_up_eq, z_up_app, z_ro_eq, h31, c, h89, h90, eo, ps]
    · rw [k3 p a b e, z_ro_ne _ _ (fun q => ?_)]
      have : p = M k := by omega
      rw [this, hm.2.2] at e
      cases e
theorem p_mb_120 (d : Nat) (T : ZT) (G : ZG) (s : ZG × ZG) {P E : Int → Int} {n : Nat} {mo ma : Int} (hn : n ≤ 5) (h31 : G 80 31 = n) (h90 : G 90 = P) (hO : o_ag n (G 91) E) (hE : ∀ i : Int, 0 ≤ i → i < n → 0 ≤ E i ∧ E i < n) (hmo : i_in mo ∧ i_in ma) (hlt : mo < ma) : ∀ (m : Nat) (k : Int) (W : Int → Int), 0 ≤ k → k + m = n → (∀ j : Int, 0 ≤ j → j < k → W j = P (E j)) → ∃ W', z_w d_M_bestSeats (z_call d) 120 [some (vr 80), none, some (vi (iI mo)), none, some (vi (iI ma)), some (vi (iI k))] [] (z_Y T (z_up G 92 W) s) = z_bI (z_call d 251 [vr 80] (z_Y T (z_up G 92 W') s)) (fun v σ => z_w d_M_bestSeats (z_call d) 64 [some (vr 80), none, some (vi (iI ma)), some (vi v), none, none] [] σ) ∧ ∀ j : Int, 0 ≤ j → j < n → W' j = P (E j)
  | 0, k, W, h0, h, h1 => by
    have c : (k < n) = False := eq_false (by omega)
    have c2 : (mo < ma) = True := eq_true hlt
    refine ⟨W, ?_, fun j a b => h1 j a (by omega)⟩
    rw [e_M_bestSeats_120]
    simp -implicitDefEqProofs (disch := first | assumption | omega | rfl | (simp only [z_up_eq, z_up_app, ↓reduceIte, Nat.reduceEqDiff]; omega)) only [z_lit0, z_lit1, z_lit2, z_litl, iI_add, iI_sub, iI_mul, iI_neg, iI_and, iI_or, iI_xor, iI_shl, iI_shr, iI_ushr, iI_div, iI_b, iI_c, iI_i2l, lI_l2i, lI_add, lI_sub, lI_mul, lI_neg, lI_div, lI_or, lI_and, lI_shl, lI_shr, nI_iI, lg_lt0, lg_gt0, lg_eq0, i_ne0', l_ne0', iI_lt, iI_le, iI_eq, lI_lt, lI_le, lI_eq, zb_0, zb_fit, zb_fit0, zb_fit1, i_one_zero, i_w_in, z_tb0, z_tb1, z_tb2, z_tb3, z_tb4, z_tb5, z_tb6, z_tb7, z_tb8, z_tbl, z_tu0, z_tu1, z_tu2, z_i_62, z_i_63, z_i_86, z_i_88, z_l_Y, z_ui_62, z_ui_63, z_ui_86, z_ui_88, z_ul_Y, z_sz_Y, z_sw_Y, iI_nat, z_ix_t, z_at, Int.add_zero, Int.sub_zero, Int.zero_add, Int.mul_zero, ne_eq, Bool.false_eq_true, Bool.true_eq_false, reduceCtorEq, eq_self, and_true, true_and, and_false, false_and, and_self, not_true_eq_false, not_false_eq_true, decide_true, decide_false, ↓reduceIte, Int.reduceEq, Int.reduceNe, Int.reduceLT, Int.reduceLE, Int.reduceAdd, Int.reduceSub, Int.reduceMul, Int.reduceNeg, Nat.reduceAdd, Nat.reduceEqDiff, Nat.reduceBEq, ↓z_x_eq, z_g_t, z_bI_s, z_bL_s, z_bR_s, z_bV_s, Int.cast_ofNat_Int, beq_self_eq_true, Bool.and_true, Bool.true_and, Bool.and_self, Bool.or_true, Bool.true_or, Bool.false_and, Bool.and_false, Bool.false_or, Bool.or_false, Bool.not_false, Bool.not_true, if_true, if_false, ite_true, ite_false, z_up_eq, z_up_app, z_ro_eq, h31, c, c2]
  | m + 1, k, W, h0, h, h1 => by
    have c : (k < n) = True := eq_true (by omega)
    have c2 : (mo < ma) = True := eq_true hlt
    have eo := hO k h0 (by omega)
    have le := hE k h0 (by omega)
    obtain ⟨W', ih, k1⟩ := p_mb_120 d T G s hn h31 h90 hO hE hmo hlt m (k + 1) (z_ro W k (P (E k))) (by omega) (by omega) (fun j a b => by
      by_cases e : j = k
      · rw [e, z_ro_eq]
      · rw [z_ro_ne _ _ e]; exact h1 j a (by omega))
    refine ⟨W', ?_, k1⟩
    rw [← ih, e_M_bestSeats_120]
    simp -implicitDefEqProofs (disch := first | assumption | omega | rfl | (simp only [z_up_eq, z_up_app, ↓reduceIte, Nat.reduceEqDiff]; omega)) only [z_lit0, z_lit1, z_lit2, z_litl, iI_add, iI_sub, iI_mul, iI_neg, iI_and, iI_or, iI_xor, iI_shl, iI_shr, iI_ushr, iI_div, iI_b, iI_c, iI_i2l, lI_l2i, lI_add, lI_sub, lI_mul, lI_neg, lI_div, lI_or, lI_and, lI_shl, lI_shr, nI_iI, lg_lt0, lg_gt0, lg_eq0, i_ne0', l_ne0', iI_lt, iI_le, iI_eq, lI_lt, lI_le, lI_eq, zb_0, zb_fit, zb_fit0, zb_fit1, i_one_zero, i_w_in, z_tb0, z_tb1, z_tb2, z_tb3, z_tb4, z_tb5, z_tb6, z_tb7, z_tb8, z_tbl, z_tu0, z_tu1, z_tu2, z_i_62, z_i_63, z_i_86, z_i_88, z_l_Y, z_ui_62, z_ui_63, z_ui_86, z_ui_88, z_ul_Y, z_sz_Y, z_sw_Y, iI_nat, z_ix_t, z_at, Int.add_zero, Int.sub_zero, Int.zero_add, Int.mul_zero, ne_eq, Bool.false_eq_true, Bool.true_eq_false, reduceCtorEq, eq_self, and_true, true_and, and_false, false_and, and_self, not_true_eq_false, not_false_eq_true, decide_true, decide_false, ↓reduceIte, Int.reduceEq, Int.reduceNe, Int.reduceLT, Int.reduceLE, Int.reduceAdd, Int.reduceSub, Int.reduceMul, Int.reduceNeg, Nat.reduceAdd, Nat.reduceEqDiff, Nat.reduceBEq, ↓z_x_eq, z_g_t, z_bI_s, z_bL_s, z_bR_s, z_bV_s, Int.cast_ofNat_Int, beq_self_eq_true, Bool.and_true, Bool.true_and, Bool.and_self, Bool.or_true, Bool.true_or, Bool.false_and, Bool.and_false, Bool.false_or, Bool.or_false, Bool.not_false, Bool.not_true, if_true, if_false, ite_true, ite_false, z_up_eq, z_up_app, z_ro_eq, h31, c, c2, eo, h90, z_up_up]

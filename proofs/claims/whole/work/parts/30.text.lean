/-! THE PURE PART, 10: texts beside one another; time, breath, air, what holds, what passes: as functions of the model's rows -/
/-- the clause of a sort in a text; -1: none -/
def m_cl (X : Int → Int) (t q : Int) : Int := if t < 0 then -1 else z_find (X (705 * t)).toNat 0 (fun k => decide (X (705 * t + 1 + 4 * k) = q))
def al_b (k : Int) : Bool := decide (0 ≤ k ∧ k ≤ 6)
def al_h (k : Int) : Bool := decide (k = 0 ∨ 7 ≤ k ∧ k ≤ 9)
/-- a law of a text: where it stands, that it can run -/
def x_law (X : Int → Int) (al : Int → Bool) (nf mf t k : Int) : Prop :=
  0 ≤ X (705 * t + 1 + 4 * k + 1) ∧ X (705 * t + 1 + 4 * k + 1) ≤ X (705 * t + 1 + 4 * k + 2) ∧ X (705 * t + 1 + 4 * k + 2) ≤ 300 ∧ e_wf al X (705 * t + 97) nf mf (X (705 * t + 1 + 4 * k + 2) - X (705 * t + 1 + 4 * k + 1)).toNat (X (705 * t + 1 + 4 * k + 1)) 0 0
def x_ok (X : Int → Int) (t : Int) : Prop := (0 ≤ X (705 * t) ∧ X (705 * t) ≤ 24) ∧ ∀ k, 0 ≤ k → k < X (705 * t) → (0 ≤ X (705 * t + 1 + 4 * k) ∧ X (705 * t + 1 + 4 * k) ≤ 12) ∧ (X (705 * t + 1 + 4 * k) ≤ 1 → x_law X al_b 1 0 t k) ∧ (X (705 * t + 1 + 4 * k) = 2 → x_law X al_h 0 1 t k)
def x_all (X : Int → Int) (n : Int) : Prop := ∀ t, 0 ≤ t → t < n → x_ok X t
/-- what a law says of names N -/
def m_say (X : Int → Int) (t q : Int) (N : Int → Int) (w lo hi : Int) : Int := if m_cl X t q < 0 then w else max lo (min hi (e_val N X (705 * t + 97) (X (705 * t + 1 + 4 * m_cl X t q + 1)) (X (705 * t + 1 + 4 * m_cl X t q + 2))))
/-- time, in any seat and state -/
def t_time (A : Int → Int) (p b st hw us sa : Int) : Int := b + sa - (if st = -1 then 0 else if hw ≠ 1 ∧ i_has us (A (12 + 2 * st)) = true then 0 else A (12 + 2 * st + 1)) - (if hw = 1 then A (32 + 5 * p + 1) / 2 else 0)
def n_br (b c pu ti bl as la : Int) : Int → Int := fun k => if k = 0 then b else if k = 1 then c else if k = 2 then pu else if k = 3 then ti else if k = 4 then bl else if k = 5 then as else la
def n_ho (b ai hi no : Int) : Int → Int := fun k => if k = 0 then b else if k = 7 then ai else if k = 8 then hi else no
def t_names (A : Int → Int) (p b st hw us sa : Int) : Int → Int := n_br b (A (32 + 5 * p)) (A (32 + 5 * p + 1)) (t_time A p b st hw us sa) (A (12 + 2 * st)) (zb (decide (hw = 1))) (A (12 + 2 * st + 1))
/-- breath, in any seat and state -/
def t_breath (A X : Int → Int) (p b st hw us sa : Int) : Int := if st = -1 ∨ hw = 2 ∨ m_cgh A p b = true then 0 else m_say X (A 6) 0 (t_names A p b st hw us sa) (if t_time A p b st hw us sa % (2 * A (32 + 5 * p + 1)) < A (32 + 5 * p + 1) then A (32 + 5 * p) else -A (32 + 5 * p)) (-9) 9
def m_time (A : Int → Int) (p b : Int) : Int := t_time A p b (A (32 + 5 * p + 3)) (A (32 + 5 * p + 4)) (A 8) (A (32 + 5 * p + 2))
/-- as it is; (hp, hb): one who would hiccup -/
def m_breath (A X : Int → Int) (hp hb p b : Int) : Int := if p = hp ∧ b = hb then 0 else t_breath A X p b (A (32 + 5 * p + 3)) (A (32 + 5 * p + 4)) (A 8) (A (32 + 5 * p + 2))
def m_air (A X : Int → Int) (hp hb b : Int) : Int := z_sum (A 1).toNat 0 (fun p => m_breath A X hp hb p b)
def m_passes (A X : Int → Int) (p : Int) : Int := m_say X (A 6) 1 (t_names A p (A 3) (A (32 + 5 * p + 3)) (A (32 + 5 * p + 4)) (A 8) (A (32 + 5 * p + 2))) 3 0 10
def m_holds (A X : Int → Int) (t n ai b : Int) : Bool := if m_cl X t 2 < 0 then decide (A (82 + 2 * n + 1) ≤ ai) else decide (e_tru (n_ho b ai (A (82 + 2 * n + 1)) n) X (705 * t + 97) (X (705 * t + 1 + 4 * m_cl X t 2 + 1)) (X (705 * t + 1 + 4 * m_cl X t 2 + 2)) = 1)
/-- the class's cell of a law beside the model's clause -/
def t_law (T : ZT) (G : ZG) (t q : Int) (r : Nat) : Prop :=
  (r = 0 ∧ m_cl (G 83) t q < 0) ∨ (98 ≤ r ∧ 0 ≤ m_cl (G 83) t q ∧ z_kt T r = (20, (G 83 (705 * t + 1 + 4 * m_cl (G 83) t q + 2) - G 83 (705 * t + 1 + 4 * m_cl (G 83) t q + 1)).toNat) ∧ ∀ i : Int, 0 ≤ i → i < G 83 (705 * t + 1 + 4 * m_cl (G 83) t q + 2) - G 83 (705 * t + 1 + 4 * m_cl (G 83) t q + 1) → G r i = t_enc (G 83 (705 * t + 97 + 2 * (G 83 (705 * t + 1 + 4 * m_cl (G 83) t q + 1) + i))) (G 83 (705 * t + 97 + 2 * (G 83 (705 * t + 1 + 4 * m_cl (G 83) t q + 1) + i) + 1)))
/-- a clause's word in the class, by its sort in the model -/
def t_kind (q : Int) : Int := if q = 0 then 28 else if q = 1 then 29 else if q = 2 then 30 else if q = 3 then 31 else if q = 4 then 32 else if q = 5 then 27 else if q < 12 then q + 27 else 18
/-- the class's text beside the model's -/
def t_txt (T : ZT) (G : ZG) (t : Int) (r : Nat) : Prop :=
  98 ≤ r ∧ (z_kt T r).1 = 9 ∧ t_law T G t 0 (z_rt T r 0) ∧ t_law T G t 1 (z_rt T r 1) ∧ t_law T G t 2 (z_rt T r 2) ∧ G r 4 = G 83 (705 * t) ∧ 98 ≤ z_rt T r 3 ∧ z_kt T (z_rt T r 3) = (20, (4 * G 83 (705 * t)).toNat) ∧
  ∀ k, 0 ≤ k → k < G 83 (705 * t) → G (z_rt T r 3) (4 * k) = t_kind (G 83 (705 * t + 1 + 4 * k)) ∧ (3 ≤ G 83 (705 * t + 1 + 4 * k) → G (z_rt T r 3) (4 * k + 1) = G 83 (705 * t + 1 + 4 * k + 1) ∧ i_in (G 83 (705 * t + 1 + 4 * k + 1)) ∧ (G 83 (705 * t + 1 + 4 * k) ≤ 6 → G (z_rt T r 3) (4 * k + 2) = G 83 (705 * t + 1 + 4 * k + 2) ∧ i_in (G 83 (705 * t + 1 + 4 * k + 2))) ∧ (G 83 (705 * t + 1 + 4 * k) = 4 → G (z_rt T r 3) (4 * k + 3) = G 83 (705 * t + 1 + 4 * k + 3) ∧ i_in (G 83 (705 * t + 1 + 4 * k + 3))))
/-- all texts; those of the image are among them -/
def t_ok (T : ZT) (G : ZG) : Prop := x_all (G 83) (G 81 5) ∧ (∀ t, 0 ≤ t → t < G 81 5 → t_txt T G t (z_rt T 19 t.toNat)) ∧ G 82 5 ≤ G 81 5 ∧ (∀ t, 0 ≤ t → t < G 82 5 → t_txt T G t (z_rt T 41 t.toNat))
theorem m_cl_in {X : Int → Int} {t q : Int} (h : 0 ≤ m_cl X t q) (hx : x_ok X t) : m_cl X t q < X (705 * t) ∧ X (705 * t + 1 + 4 * m_cl X t q) = q ∧ 0 ≤ t := by
  unfold m_cl at h ⊢
  by_cases c : t < 0
  · rw [if_pos c] at h; omega
  · rw [if_neg c] at h ⊢
    rcases z_find_in (fun k => decide (X (705 * t + 1 + 4 * k) = q)) (X (705 * t)).toNat 0 with e | ⟨e1, e2, e3⟩
    · omega
    · have := hx.1
      exact ⟨by omega, of_decide_eq_true e3, by omega⟩
theorem e_run_in {al : Int → Bool} {N X : Int → Int} {c nf mf : Int} (hN : ∀ k, al k = true → e_b (N k)) : ∀ (k : Nat) (i : Int) (e : ZE), e_wf al X c nf mf k i e.1 e.2.2.1 → e_in e → e_in (e_run N X c k i e) ∧ (e_run N X c k i e).1 = nf ∧ (e_run N X c k i e).2.2.1 = mf
  | 0, _, _, hw, he => ⟨he, hw.1, hw.2⟩
  | k + 1, i, e, hw, he => by
    obtain ⟨w1, w2⟩ := hw
    obtain ⟨i1, i2, i3⟩ := e_stp_in (N := N) hN w1 he
    exact e_run_in hN k (i + 1) _ (by rw [i2, i3]; exact w2) i1
theorem e_val_b {al : Int → Bool} {N X : Int → Int} {mf t k : Int} (hN : ∀ k, al k = true → e_b (N k)) (h : x_law X al 1 mf t k) : e_b (e_val N X (705 * t + 97) (X (705 * t + 1 + 4 * k + 1)) (X (705 * t + 1 + 4 * k + 2))) := by
  obtain ⟨x1, x2, x3, x4⟩ := h
  obtain ⟨a, b, c⟩ := e_run_in hN _ _ (0, fun _ => 0, 0, fun _ => 0) x4 ⟨Int.le_refl _, Int.le_refl _, by decide, fun k a b => by have : k < 0 := b; omega, fun k a b => by have : k < 0 := b; omega⟩
  exact a.2.2.2.1 0 (by omega) (by omega)
theorem e_tru_b {al : Int → Bool} {N X : Int → Int} {nf t k : Int} (hN : ∀ k, al k = true → e_b (N k)) (h : x_law X al nf 1 t k) : e_tru N X (705 * t + 97) (X (705 * t + 1 + 4 * k + 1)) (X (705 * t + 1 + 4 * k + 2)) = 0 ∨ e_tru N X (705 * t + 97) (X (705 * t + 1 + 4 * k + 1)) (X (705 * t + 1 + 4 * k + 2)) = 1 := by
  obtain ⟨x1, x2, x3, x4⟩ := h
  obtain ⟨a, b, c⟩ := e_run_in hN _ _ (0, fun _ => 0, 0, fun _ => 0) x4 ⟨Int.le_refl _, Int.le_refl _, by decide, fun k a b => by have : k < 0 := b; omega, fun k a b => by have : k < 0 := b; omega⟩
  exact a.2.2.2.2 0 (by omega) (by omega)
theorem t_time_in {A : Int → Int} {p b st hw us sa : Int} (hM : m_ok A) (hp : 0 ≤ p ∧ p < A 1) (hb : 0 ≤ b ∧ b ≤ 20000) (hs : -1 ≤ st ∧ st < A 0) (ha : 0 ≤ sa ∧ sa ≤ 17) : -20 ≤ t_time A p b st hw us sa ∧ t_time A p b st hw us sa ≤ 20020 := by
  obtain ⟨m0, m1, m2, m3, m4, m5, m6, m7, m8, m9, m10, m11, ms, mp, mn, mc, mb, me⟩ := hM
  have h1 := mp p hp.1 hp.2
  unfold t_time
  by_cases c : st = -1
  · rw [if_pos c]; split <;> omega
  · rw [if_neg c]
    have h2 := ms st (by omega) hs.2
    split <;> split <;> omega
theorem t_names_b {A : Int → Int} {p b st hw us sa : Int} (hM : m_ok A) (hp : 0 ≤ p ∧ p < A 1) (hb : 0 ≤ b ∧ b ≤ 20000) (hs : 0 ≤ st ∧ st < A 0) (ha : 0 ≤ sa ∧ sa ≤ 17) : ∀ k, al_b k = true → e_b (t_names A p b st hw us sa k) := by
  intro k hk
  have ht := t_time_in (us := us) (hw := hw) hM hp hb ⟨by omega, hs.2⟩ ha
  obtain ⟨m0, m1, m2, m3, m4, m5, m6, m7, m8, m9, m10, m11, ms, mp, mn, mc, mb, me⟩ := hM
  have h1 := mp p hp.1 hp.2
  have h2 := ms st hs.1 hs.2
  have h3 := zb_in (decide (hw = 1))
  unfold t_names n_br e_b
  repeat' split
  all_goals omega
theorem m_say_in {X : Int → Int} {t q : Int} {N : Int → Int} {w lo hi : Int} (h : lo ≤ w ∧ w ≤ hi) : lo ≤ m_say X t q N w lo hi ∧ m_say X t q N w lo hi ≤ hi := by
  unfold m_say; split <;> omega
theorem t_breath_in {A X : Int → Int} {p b st hw us sa : Int} (hM : m_ok A) (hp : 0 ≤ p ∧ p < A 1) : -9 ≤ t_breath A X p b st hw us sa ∧ t_breath A X p b st hw us sa ≤ 9 := by
  obtain ⟨m0, m1, m2, m3, m4, m5, m6, m7, m8, m9, m10, m11, ms, mp, mn, mc, mb, me⟩ := hM
  have h1 := mp p hp.1 hp.2
  unfold t_breath
  split
  · omega
  · refine m_say_in ?_
    split <;> omega
theorem m_breath_in {A X : Int → Int} {hp hb p b : Int} (hM : m_ok A) (h : 0 ≤ p ∧ p < A 1) : -9 ≤ m_breath A X hp hb p b ∧ m_breath A X hp hb p b ≤ 9 := by
  unfold m_breath
  split
  · omega
  · exact t_breath_in hM h
theorem m_air_in {A X : Int → Int} {hp hb b : Int} (hM : m_ok A) : -90 ≤ m_air A X hp hb b ∧ m_air A X hp hb b ≤ 90 := by
  have h1 := hM.2.1
  have h := z_sum_le (f := fun p => m_breath A X hp hb p b) (b := 9) (A 1).toNat 0 (fun k a c => m_breath_in hM ⟨a, by omega⟩)
  unfold m_air
  omega
/-! the model's side -/
theorem i_div2 {x : Int} (h : 0 ≤ x ∧ x < 2147483648) : i_div x 2 = x / 2 := by
  rw [i_div_in ⟨by omega, by omega⟩ ⟨by omega, by omega⟩ (by omega)]
  exact Int.tdiv_eq_ediv_of_nonneg h.1
theorem p_mtime (d : Nat) (T : ZT) (G : ZG) (s : ZG × ZG) {p b : Int} (hM : m_ok (G 81)) (hp : 0 ≤ p ∧ p < G 81 1) : z_call (d + 2) 160 [vr 80, vi (iI p), vi (iI b)] (z_Y T G s) = some (vi (iI (m_time (G 81) p b)), z_Y T G s) := by
  obtain ⟨m0, m1, m2, m3, m4, m5, m6, m7, m8, m9, m10, m11, ms, mp, mn, mc, mb, me⟩ := hM
  have h1 := mp p hp.1 hp.2
  rw [e_M_timeOf]
  unfold m_time t_time
  by_cases c1 : G 81 (32 + 5 * p + 4) = 1
  · by_cases c2 : G 81 (32 + 5 * p + 3) = -1
    · simp -implicitDefEqProofs (disch := first | assumption | omega | rfl) only [z_lit0, z_lit1, z_lit2, z_litl, iI_add, iI_sub, iI_mul, iI_neg, iI_and, iI_or, iI_xor, iI_shl, iI_shr, iI_ushr, iI_div, iI_b, iI_c, iI_i2l, lI_l2i, lI_add, lI_sub, lI_mul, lI_neg, lI_div, lI_or, lI_and, lI_shl, lI_shr, nI_iI, lg_lt0, lg_gt0, lg_eq0, i_ne0', l_ne0', iI_lt, iI_le, iI_eq, lI_lt, lI_le, lI_eq, zb_0, zb_fit, zb_fit0, zb_fit1, i_one_zero, i_w_in, z_tb0, z_tb1, z_tb2, z_tb3, z_tb4, z_tb5, z_tb6, z_tb7, z_tb8, z_tbl, z_tu0, z_tu1, z_tu2, z_i_62, z_i_63, z_i_86, z_i_88, z_l_Y, z_ui_62, z_ui_63, z_ui_86, z_ui_88, z_ul_Y, z_sz_Y, z_sw_Y, iI_nat, z_ix_t, z_at, Int.add_zero, Int.sub_zero, Int.zero_add, Int.mul_zero, ne_eq, Bool.false_eq_true, Bool.true_eq_false, reduceCtorEq, eq_self, and_true, true_and, and_false, false_and, and_self, not_true_eq_false, not_false_eq_true, decide_true, decide_false, ↓reduceIte, Int.reduceEq, Int.reduceNe, Int.reduceLT, Int.reduceLE, Int.reduceAdd, Int.reduceSub, Int.reduceMul, Int.reduceNeg, Nat.reduceAdd, Nat.reduceEqDiff, Nat.reduceBEq, ↓z_x_eq, z_g_t, z_bI_s, z_bL_s, z_bR_s, z_bV_s, Int.cast_ofNat_Int, beq_self_eq_true, Bool.and_true, Bool.true_and, Bool.and_self, Bool.or_true, Bool.true_or, Bool.false_and, Bool.and_false, Bool.false_or, Bool.or_false, Bool.not_false, Bool.not_true, if_true, if_false, ite_true, ite_false, z_up_eq, z_up_app, z_ro_eq, p_get, c1, c2, e_M_timeOf_63, i_div2]
    · have h2 := ms (G 81 (32 + 5 * p + 3)) (by omega) (by omega)
      simp -implicitDefEqProofs (disch := first | assumption | omega | rfl) only [z_lit0, z_lit1, z_lit2, z_litl, iI_add, iI_sub, iI_mul, iI_neg, iI_and, iI_or, iI_xor, iI_shl, iI_shr, iI_ushr, iI_div, iI_b, iI_c, iI_i2l, lI_l2i, lI_add, lI_sub, lI_mul, lI_neg, lI_div, lI_or, lI_and, lI_shl, lI_shr, nI_iI, lg_lt0, lg_gt0, lg_eq0, i_ne0', l_ne0', iI_lt, iI_le, iI_eq, lI_lt, lI_le, lI_eq, zb_0, zb_fit, zb_fit0, zb_fit1, i_one_zero, i_w_in, z_tb0, z_tb1, z_tb2, z_tb3, z_tb4, z_tb5, z_tb6, z_tb7, z_tb8, z_tbl, z_tu0, z_tu1, z_tu2, z_i_62, z_i_63, z_i_86, z_i_88, z_l_Y, z_ui_62, z_ui_63, z_ui_86, z_ui_88, z_ul_Y, z_sz_Y, z_sw_Y, iI_nat, z_ix_t, z_at, Int.add_zero, Int.sub_zero, Int.zero_add, Int.mul_zero, ne_eq, Bool.false_eq_true, Bool.true_eq_false, reduceCtorEq, eq_self, and_true, true_and, and_false, false_and, and_self, not_true_eq_false, not_false_eq_true, decide_true, decide_false, ↓reduceIte, Int.reduceEq, Int.reduceNe, Int.reduceLT, Int.reduceLE, Int.reduceAdd, Int.reduceSub, Int.reduceMul, Int.reduceNeg, Nat.reduceAdd, Nat.reduceEqDiff, Nat.reduceBEq, ↓z_x_eq, z_g_t, z_bI_s, z_bL_s, z_bR_s, z_bV_s, Int.cast_ofNat_Int, beq_self_eq_true, Bool.and_true, Bool.true_and, Bool.and_self, Bool.or_true, Bool.true_or, Bool.false_and, Bool.and_false, Bool.false_or, Bool.or_false, Bool.not_false, Bool.not_true, if_true, if_false, ite_true, ite_false, z_up_eq, z_up_app, z_ro_eq, p_get, c1, c2, e_M_timeOf_63, i_div2, p_seatOf, p_mhas]
      simp
  · by_cases c2 : G 81 (32 + 5 * p + 3) = -1
    · simp -implicitDefEqProofs (disch := first | assumption | omega | rfl) only [z_lit0, z_lit1, z_lit2, z_litl, iI_add, iI_sub, iI_mul, iI_neg, iI_and, iI_or, iI_xor, iI_shl, iI_shr, iI_ushr, iI_div, iI_b, iI_c, iI_i2l, lI_l2i, lI_add, lI_sub, lI_mul, lI_neg, lI_div, lI_or, lI_and, lI_shl, lI_shr, nI_iI, lg_lt0, lg_gt0, lg_eq0, i_ne0', l_ne0', iI_lt, iI_le, iI_eq, lI_lt, lI_le, lI_eq, zb_0, zb_fit, zb_fit0, zb_fit1, i_one_zero, i_w_in, z_tb0, z_tb1, z_tb2, z_tb3, z_tb4, z_tb5, z_tb6, z_tb7, z_tb8, z_tbl, z_tu0, z_tu1, z_tu2, z_i_62, z_i_63, z_i_86, z_i_88, z_l_Y, z_ui_62, z_ui_63, z_ui_86, z_ui_88, z_ul_Y, z_sz_Y, z_sw_Y, iI_nat, z_ix_t, z_at, Int.add_zero, Int.sub_zero, Int.zero_add, Int.mul_zero, ne_eq, Bool.false_eq_true, Bool.true_eq_false, reduceCtorEq, eq_self, and_true, true_and, and_false, false_and, and_self, not_true_eq_false, not_false_eq_true, decide_true, decide_false, ↓reduceIte, Int.reduceEq, Int.reduceNe, Int.reduceLT, Int.reduceLE, Int.reduceAdd, Int.reduceSub, Int.reduceMul, Int.reduceNeg, Nat.reduceAdd, Nat.reduceEqDiff, Nat.reduceBEq, ↓z_x_eq, z_g_t, z_bI_s, z_bL_s, z_bR_s, z_bV_s, Int.cast_ofNat_Int, beq_self_eq_true, Bool.and_true, Bool.true_and, Bool.and_self, Bool.or_true, Bool.true_or, Bool.false_and, Bool.and_false, Bool.false_or, Bool.or_false, Bool.not_false, Bool.not_true, if_true, if_false, ite_true, ite_false, z_up_eq, z_up_app, z_ro_eq, p_get, c1, c2, e_M_timeOf_63, i_div2]
    · have h2 := ms (G 81 (32 + 5 * p + 3)) (by omega) (by omega)
      cases c3 : i_has (G 81 8) (G 81 (12 + 2 * G 81 (32 + 5 * p + 3)))
      · simp -implicitDefEqProofs (disch := first | assumption | omega | rfl) only [z_lit0, z_lit1, z_lit2, z_litl, iI_add, iI_sub, iI_mul, iI_neg, iI_and, iI_or, iI_xor, iI_shl, iI_shr, iI_ushr, iI_div, iI_b, iI_c, iI_i2l, lI_l2i, lI_add, lI_sub, lI_mul, lI_neg, lI_div, lI_or, lI_and, lI_shl, lI_shr, nI_iI, lg_lt0, lg_gt0, lg_eq0, i_ne0', l_ne0', iI_lt, iI_le, iI_eq, lI_lt, lI_le, lI_eq, zb_0, zb_fit, zb_fit0, zb_fit1, i_one_zero, i_w_in, z_tb0, z_tb1, z_tb2, z_tb3, z_tb4, z_tb5, z_tb6, z_tb7, z_tb8, z_tbl, z_tu0, z_tu1, z_tu2, z_i_62, z_i_63, z_i_86, z_i_88, z_l_Y, z_ui_62, z_ui_63, z_ui_86, z_ui_88, z_ul_Y, z_sz_Y, z_sw_Y, iI_nat, z_ix_t, z_at, Int.add_zero, Int.sub_zero, Int.zero_add, Int.mul_zero, ne_eq, Bool.false_eq_true, Bool.true_eq_false, reduceCtorEq, eq_self, and_true, true_and, and_false, false_and, and_self, not_true_eq_false, not_false_eq_true, decide_true, decide_false, ↓reduceIte, Int.reduceEq, Int.reduceNe, Int.reduceLT, Int.reduceLE, Int.reduceAdd, Int.reduceSub, Int.reduceMul, Int.reduceNeg, Nat.reduceAdd, Nat.reduceEqDiff, Nat.reduceBEq, ↓z_x_eq, z_g_t, z_bI_s, z_bL_s, z_bR_s, z_bV_s, Int.cast_ofNat_Int, beq_self_eq_true, Bool.and_true, Bool.true_and, Bool.and_self, Bool.or_true, Bool.true_or, Bool.false_and, Bool.and_false, Bool.false_or, Bool.or_false, Bool.not_false, Bool.not_true, if_true, if_false, ite_true, ite_false, z_up_eq, z_up_app, z_ro_eq, p_get, c1, c2, e_M_timeOf_63, i_div2, p_seatOf, p_mhas, c3, zb_f, zb_t]
      · simp -implicitDefEqProofs (disch := first | assumption | omega | rfl) only [z_lit0, z_lit1, z_lit2, z_litl, iI_add, iI_sub, iI_mul, iI_neg, iI_and, iI_or, iI_xor, iI_shl, iI_shr, iI_ushr, iI_div, iI_b, iI_c, iI_i2l, lI_l2i, lI_add, lI_sub, lI_mul, lI_neg, lI_div, lI_or, lI_and, lI_shl, lI_shr, nI_iI, lg_lt0, lg_gt0, lg_eq0, i_ne0', l_ne0', iI_lt, iI_le, iI_eq, lI_lt, lI_le, lI_eq, zb_0, zb_fit, zb_fit0, zb_fit1, i_one_zero, i_w_in, z_tb0, z_tb1, z_tb2, z_tb3, z_tb4, z_tb5, z_tb6, z_tb7, z_tb8, z_tbl, z_tu0, z_tu1, z_tu2, z_i_62, z_i_63, z_i_86, z_i_88, z_l_Y, z_ui_62, z_ui_63, z_ui_86, z_ui_88, z_ul_Y, z_sz_Y, z_sw_Y, iI_nat, z_ix_t, z_at, Int.add_zero, Int.sub_zero, Int.zero_add, Int.mul_zero, ne_eq, Bool.false_eq_true, Bool.true_eq_false, reduceCtorEq, eq_self, and_true, true_and, and_false, false_and, and_self, not_true_eq_false, not_false_eq_true, decide_true, decide_false, ↓reduceIte, Int.reduceEq, Int.reduceNe, Int.reduceLT, Int.reduceLE, Int.reduceAdd, Int.reduceSub, Int.reduceMul, Int.reduceNeg, Nat.reduceAdd, Nat.reduceEqDiff, Nat.reduceBEq, ↓z_x_eq, z_g_t, z_bI_s, z_bL_s, z_bR_s, z_bV_s, Int.cast_ofNat_Int, beq_self_eq_true, Bool.and_true, Bool.true_and, Bool.and_self, Bool.or_true, Bool.true_or, Bool.false_and, Bool.and_false, Bool.false_or, Bool.or_false, Bool.not_false, Bool.not_true, if_true, if_false, ite_true, ite_false, z_up_eq, z_up_app, z_ro_eq, p_get, c1, c2, e_M_timeOf_63, i_div2, p_seatOf, p_mhas, c3, zb_f, zb_t]

/-! THE PURE PART, 51: a cough and how it is passed on, on both sides -/
def k_cgh (G : ZG) (p b : Int) : Bool := z_any (G 20 5).toNat 0 (fun k => decide (G 23 k = p ∧ G 24 k = b))
theorem k_cgh_eq {A : Int → Int} {G : ZG} (h : c_nw A G) (p b : Int) : k_cgh G p b = m_cgh A p b := by
  have e := (dw_m h).2.2.2
  have o := dw_c h
  have m11 := h.1.2.2.2.2.2.2.2.2.2.2.2.1
  unfold k_cgh m_cgh
  rw [e]
  refine z_any_eq _ _ (fun k a b => ?_)
  rw [(o k a (by omega)).1, (o k a (by omega)).2]
theorem p_cghK (d : Nat) (T : ZT) (G : ZG) (s : ZG × ZG) {A : Int → Int} {p b : Int} (hp : i_in p ∧ i_in b) (hC : c_nw A G) : z_call (d + 1) 141 [vr 20, vi (iI p), vi (iI b)] (z_Y T G s) = some (vi (iI (zb (k_cgh G p b))), z_Y T G s) := by
  have e := (dw_m hC).2.2.2
  have o := dw_c hC
  have m11 := hC.1.2.2.2.2.2.2.2.2.2.2.2.1
  have mc := hC.1.2.2.2.2.2.2.2.2.2.2.2.2.2.2.2.1
  rw [e_Mo_isCoughing]
  simp -implicitDefEqProofs (disch := first | assumption | omega | rfl | (simp only [z_up_eq, z_up_app, ↓reduceIte, Nat.reduceEqDiff]; omega)) only [z_lit0, z_lit1, z_lit2, z_litl, iI_add, iI_sub, iI_mul, iI_neg, iI_and, iI_or, iI_xor, iI_shl, iI_shr, iI_ushr, iI_div, iI_b, iI_c, iI_i2l, lI_l2i, lI_add, lI_sub, lI_mul, lI_neg, lI_div, lI_or, lI_and, lI_shl, lI_shr, nI_iI, lg_lt0, lg_gt0, lg_eq0, i_ne0', l_ne0', iI_lt, iI_le, iI_eq, lI_lt, lI_le, lI_eq, zb_0, zb_fit, zb_fit0, zb_fit1, i_one_zero, i_w_in, z_tb0, z_tb1, z_tb2, z_tb3, z_tb4, z_tb5, z_tb6, z_tb7, z_tb8, z_tbl, z_tu0, z_tu1, z_tu2, z_i_62, z_i_63, z_i_86, z_i_88, z_l_Y, z_ui_62, z_ui_63, z_ui_86, z_ui_88, z_ul_Y, z_sz_Y, z_sw_Y, iI_nat, z_ix_t, z_at, Int.add_zero, Int.sub_zero, Int.zero_add, Int.mul_zero, ne_eq, Bool.false_eq_true, Bool.true_eq_false, reduceCtorEq, eq_self, and_true, true_and, and_false, false_and, and_self, not_true_eq_false, not_false_eq_true, decide_true, decide_false, ↓reduceIte, Int.reduceEq, Int.reduceNe, Int.reduceLT, Int.reduceLE, Int.reduceAdd, Int.reduceSub, Int.reduceMul, Int.reduceNeg, Nat.reduceAdd, Nat.reduceEqDiff, Nat.reduceBEq, ↓z_x_eq, z_g_t, z_bI_s, z_bL_s, z_bR_s, z_bV_s, Int.cast_ofNat_Int, beq_self_eq_true, Bool.and_true, Bool.true_and, Bool.and_self, Bool.or_true, Bool.true_or, Bool.false_and, Bool.and_false, Bool.false_or, Bool.or_false, Bool.not_false, Bool.not_true, if_true, if_false, ite_true, ite_false, z_up_eq, z_up_app, z_ro_eq]
  refine p_cgh_l d T G s hp (by omega) (fun k a b => ?_) (G 20 5).toNat 0 (by omega) (by omega)
  have h1 := o k a (by omega)
  have h2 := mc k a (by omega)
  rw [h1.1, h1.2]
  omega
/-- what the class's law says of passing on, of its own rows -/
def k_time (G : ZG) (p : Int) : Int := G 20 3 + G 16 p - (if G 21 p = -1 then 0 else if G 22 p ≠ 1 ∧ i_has (G 20 2) (G 12 (G 21 p)) = true then 0 else G 13 (G 21 p)) - (if G 22 p = 1 then G 15 p / 2 else 0)
def k_passes (G : ZG) (p : Int) : Int := m_say (G 83) (G 11 12) 1 (n_br (G 20 3) (G 14 p) (G 15 p) (k_time G p) (G 12 (G 21 p)) (zb (decide (G 22 p = 1))) (G 13 (G 21 p))) 3 0 10
theorem k_passes_eq {A : Int → Int} {G : ZG} (h : c_nw A G) {p : Int} (hp : 0 ≤ p ∧ p < A 1) (ha : A (32 + 5 * p + 3) ≠ -1) : k_passes G p = m_passes A (G 83) p := by
  have q6 := (dw_h h).2.2.2.2
  have dp := dw_p h p hp.1 hp.2
  have dm := dw_m h
  have o := dw_o h p hp.1 hp.2
  have mp := mo_p h.1 p hp.1 hp.2
  have ds := dw_s h (A (32 + 5 * p + 3)) (by omega) (by omega)
  unfold k_passes m_passes t_names k_time t_time
  rw [q6, dm.1, dm.2.1, dp.1, dp.2.1, dp.2.2, o.1, o.2, ds.1, ds.2]
theorem p_cpassesK (d : Nat) (T : ZT) (G : ZG) (s : ZG × ZG) {A : Int → Int} {p : Int} (hQ : c_nw A G ∧ t_okA T A G) (hp : 0 ≤ p ∧ p < A 1) (ha : A (32 + 5 * p + 3) ≠ -1) : ∃ s', z_call (d + 4) 151 [vr 61, vi (iI p)] (z_Y T G s) = some (vi (iI (k_passes G p)), z_Y T G s') := by
  rw [k_passes_eq hQ.1 hp ha]
  obtain ⟨v, τ, e, rfl, s', rfl⟩ := p_cpassesA d T G s hQ hp ha
  exact ⟨s', e⟩
theorem k_passes_in (G : ZG) (p : Int) : 0 ≤ k_passes G p ∧ k_passes G p ≤ 10 := m_say_in (by omega)
theorem m_passes_in (A X : Int → Int) (p : Int) : 0 ≤ m_passes A X p ∧ m_passes A X p ≤ 10 := m_say_in (by omega)
theorem i_remn {x n : Int} (h : 0 ≤ x ∧ x < 2147483648) (hn : 0 < n ∧ n < 2147483648) : x - i_div x n * n = x % n := by
  rw [i_div_in ⟨by omega, by omega⟩ ⟨by omega, by omega⟩ (by omega), Int.tdiv_eq_ediv_of_nonneg h.1, Int.emod_def, Int.mul_comm]
/-- the coupling, if only draws and coughs have changed -/
theorem D_cx {A A' : Int → Int} {G G' : ZG} (hC : c_nw A G) (hg : ∀ r, r ≠ 20 → r ≠ 23 → r ≠ 24 → G' r = G r) (ha : ∀ k, k ≠ 4 → k ≠ 11 → (k < 106 ∨ 146 ≤ k) → A' k = A k) (b4 : 0 ≤ A' 4 ∧ A' 4 ≤ 30270) (b11 : A 11 ≤ A' 11 ∧ A' 11 ≤ 20) (old : ∀ k, 0 ≤ k → k < 2 * A 11 → A' (106 + k) = A (106 + k)) (hc : ∀ k, 0 ≤ k → k < A' 11 → (0 ≤ A' (106 + 2 * k) ∧ A' (106 + 2 * k) ≤ 9) ∧ (0 ≤ A' (106 + 2 * k + 1) ∧ A' (106 + 2 * k + 1) ≤ 9999)) (g20 : G' 20 2 = G 20 2 ∧ G' 20 3 = G 20 3 ∧ G' 20 4 = A' 4 ∧ G' 20 5 = A' 11) (ho : ∀ k, 0 ≤ k → k < A' 11 → G' 23 k = A' (106 + 2 * k) ∧ G' 24 k = A' (106 + 2 * k + 1)) : c_nw A' G' := by
  obtain ⟨hM, hI, ⟨h1, h2, h3, h4, h5, h6, h8, h9⟩, ⟨o1, o2, o3, o4⟩, ⟨t1, t2, t3, t4⟩, ⟨p1, p2, p3, p4⟩⟩ := hC
  obtain ⟨m0, m1, m2, m3, m4, m5, m6, m7, m8, m9, m10, m11, ms, mp, mn, mc, mb, me⟩ := hM
  have e0 : A' 0 = A 0 := ha 0 (by omega) (by omega) (by omega)
  have e1 : A' 1 = A 1 := ha 1 (by omega) (by omega) (by omega)
  have e2 : A' 2 = A 2 := ha 2 (by omega) (by omega) (by omega)
  have e3 : A' 3 = A 3 := ha 3 (by omega) (by omega) (by omega)
  have e5 : A' 5 = A 5 := ha 5 (by omega) (by omega) (by omega)
  have e6 : A' 6 = A 6 := ha 6 (by omega) (by omega) (by omega)
  have e7 : A' 7 = A 7 := ha 7 (by omega) (by omega) (by omega)
  have e8 : A' 8 = A 8 := ha 8 (by omega) (by omega) (by omega)
  have e9 : A' 9 = A 9 := ha 9 (by omega) (by omega) (by omega)
  have e10 : A' 10 = A 10 := ha 10 (by omega) (by omega) (by omega)
  have em : ∀ k, 12 ≤ k → k < 106 ∨ 146 ≤ k → A' k = A k := fun k a b => ha k (by omega) (by omega) b
  refine ⟨?_, ?_, ?_, ?_, ?_, ?_⟩
  · unfold m_ok
    rw [e0, e1, e2, e3, e5, e6, e7, e8, e9, e10]
    refine ⟨m0, m1, m2, m3, b4, m5, m6, m7, m8, m9, m10, by omega, fun k a b => ?_, fun k a b => ?_, fun k a b => ?_, hc, fun k a b => ?_, fun k a b => ?_⟩
    · rw [em _ (by omega) (by omega), em _ (by omega) (by omega)]; exact ms k a b
    · rw [em _ (by omega) (by omega), em _ (by omega) (by omega), em _ (by omega) (by omega), em _ (by omega) (by omega), em _ (by omega) (by omega)]; exact mp k a b
    · rw [em _ (by omega) (by omega), em _ (by omega) (by omega)]; exact mn k a b
    · rw [em _ (by omega) (by omega), em _ (by omega) (by omega)]; exact mb k a b
    · rw [em _ (by omega) (by omega), em _ (by omega) (by omega), em _ (by omega) (by omega)]; exact me k a b
  · intro p q a b a' b' f
    rw [e1] at b b'
    rw [em _ (by omega) (by omega), em _ (by omega) (by omega)] at f
    rw [em _ (by omega) (by omega)]
    exact hI p q a b a' b' f
  · unfold c_hs
    dsimp only
    rw [hg (11 + 0) (by omega) (by omega) (by omega), hg (11 + 1) (by omega) (by omega) (by omega), hg (11 + 2) (by omega) (by omega) (by omega), hg (11 + 3) (by omega) (by omega) (by omega), hg (11 + 4) (by omega) (by omega) (by omega), hg (11 + 5) (by omega) (by omega) (by omega), hg (11 + 6) (by omega) (by omega) (by omega), hg (11 + 7) (by omega) (by omega) (by omega), e0, e1, e2, e5, e6]
    refine ⟨h1, h2, h3, h4, h5, fun k a b => ?_, fun k a b => ?_, fun k a b => ?_⟩
    · rw [em _ (by omega) (by omega), em _ (by omega) (by omega)]; exact h6 k a b
    · rw [em _ (by omega) (by omega), em _ (by omega) (by omega), em _ (by omega) (by omega)]; exact h8 k a b
    · rw [em _ (by omega) (by omega), em _ (by omega) (by omega)]; exact h9 k a b
  · unfold c_mo
    dsimp only
    simp only [Nat.reduceAdd] at *
    rw [hg 21 (by omega) (by omega) (by omega), hg 22 (by omega) (by omega) (by omega), e1, e3, e8, g20.1, g20.2.1, g20.2.2.1, g20.2.2.2]
    refine ⟨⟨o1.1, o1.2.1, rfl, rfl⟩, fun k a b => ?_, o3, ho⟩
    rw [em _ (by omega) (by omega), em _ (by omega) (by omega)]; exact o2 k a b
  · unfold c_to
    dsimp only
    rw [hg (11 + 16) (by omega) (by omega) (by omega), hg (11 + 17) (by omega) (by omega) (by omega), hg (11 + 18) (by omega) (by omega) (by omega), hg (11 + 19) (by omega) (by omega) (by omega), hg (11 + 20) (by omega) (by omega) (by omega), hg (11 + 21) (by omega) (by omega) (by omega), e9, e10]
    refine ⟨t1, fun k a b => ?_, t3, fun k a b => ?_⟩
    · rw [em _ (by omega) (by omega), em _ (by omega) (by omega)]; exact t2 k a b
    · rw [em _ (by omega) (by omega), em _ (by omega) (by omega), em _ (by omega) (by omega)]; exact t4 k a b
  · unfold c_sp
    dsimp only
    rw [hg (11 + 14) (by omega) (by omega) (by omega), hg (11 + 15) (by omega) (by omega) (by omega), e7]
    refine ⟨p1, p2, fun j a b => ?_, fun i j a b c => ?_⟩
    · exact st_tr (p3 j a b) (fun _ _ _ => rfl) (fun k a b => em _ (by omega) (by omega)) (by omega) (by omega) b11.1 (by omega) (by omega) old
    · rw [em _ (by omega) (by omega), em _ (by omega) (by omega)]; exact p4 i j a b c
/-- a cough is kept; a draw -/
def k_cg (G : ZG) (p : Int) : ZG := if G 20 5 < 20 ∧ k_cgh G p (G 20 3) = false then z_up (z_up (z_up G 20 (z_ro (G 20) 5 (G 20 5 + 1))) 23 (z_ro (G 23) (G 20 5) p)) 24 (z_ro (G 24) (G 20 5) (G 20 3)) else G
def m_cg (A : Int → Int) (p : Int) : Int → Int := if A 11 < 20 ∧ m_cgh A p (A 3) = false then z_ro (z_ro (z_ro A (106 + 2 * A 11) p) (106 + 2 * A 11 + 1) (A 3)) 11 (A 11 + 1) else A
def k_dr (G : ZG) : ZG := z_up G 20 (z_ro (G 20) 4 ((G 20 4 * 277 + 173) % 30271))
def m_dr (A : Int → Int) : Int → Int := z_ro A 4 ((A 4 * 277 + 173) % 30271)
/-- what they leave alone -/
def m_fr (A A' : Int → Int) : Prop := ∀ k, k ≠ 4 → k ≠ 11 → (k < 106 ∨ 146 ≤ k) → A' k = A k
def k_fr (G G' : ZG) : Prop := (∀ r, r ≠ 20 → r ≠ 23 → r ≠ 24 → G' r = G r) ∧ ∀ k, k ≠ 4 → k ≠ 5 → G' 20 k = G 20 k
theorem m_fr_tr {A B C : Int → Int} (h : m_fr A B) (h2 : m_fr B C) : m_fr A C := fun k a b c => (h2 k a b c).trans (h k a b c)
theorem k_fr_tr {A B C : ZG} (h : k_fr A B) (h2 : k_fr B C) : k_fr A C := ⟨fun r a b c => (h2.1 r a b c).trans (h.1 r a b c), fun k a b => (h2.2 k a b).trans (h.2 k a b)⟩
theorem m_cg_fr (A : Int → Int) (p : Int) (h : 0 ≤ A 11) : m_fr A (m_cg A p) := by
  intro k a b c
  unfold m_cg
  split
  · rename_i g
    rw [z_ro_ne _ _ b, z_ro_ne _ _ (by omega), z_ro_ne _ _ (by omega)]
  · rfl
theorem m_dr_fr (A : Int → Int) : m_fr A (m_dr A) := fun k a b c => z_ro_ne _ _ a
theorem k_cg_fr (G : ZG) (p : Int) : k_fr G (k_cg G p) := by
  unfold k_cg k_fr
  split
  · exact ⟨fun r a b c => by rw [z_up_ne _ _ c, z_up_ne _ _ b, z_up_ne _ _ a], fun k a b => by rw [z_up_ne _ _ (by omega), z_up_ne _ _ (by omega), z_up_eq, z_ro_ne _ _ b]⟩
  · exact ⟨fun _ _ _ _ => rfl, fun _ _ _ => rfl⟩
theorem k_dr_fr (G : ZG) : k_fr G (k_dr G) := ⟨fun r a b c => z_up_ne _ _ a, fun k a b => by unfold k_dr; rw [z_up_eq, z_ro_ne _ _ a]⟩
theorem D_dr {A : Int → Int} {G : ZG} (hC : c_nw A G) : c_nw (m_dr A) (k_dr G) := by
  have dm := dw_m hC
  have m11 := hC.1.2.2.2.2.2.2.2.2.2.2.2.1
  have mc := hC.1.2.2.2.2.2.2.2.2.2.2.2.2.2.2.2.1
  have dc := dw_c hC
  have e11 : m_dr A 11 = A 11 := z_ro_ne _ _ (by omega)
  have e : ∀ k, 106 ≤ k → m_dr A k = A k := fun k a => z_ro_ne _ _ (by omega)
  have e4 : m_dr A 4 = (A 4 * 277 + 173) % 30271 := z_ro_eq _ _ _
  refine D_cx hC (k_dr_fr G).1 (m_dr_fr A) (by rw [e4]; omega) (by omega) (fun k a b => e _ (by omega)) (fun k a b => ?_) ⟨(k_dr_fr G).2 2 (by omega) (by omega), (k_dr_fr G).2 3 (by omega) (by omega), ?_, ?_⟩ (fun k a b => ?_)
  · rw [e _ (by omega), e _ (by omega)]; exact mc k a (by omega)
  · unfold k_dr; rw [z_up_eq, z_ro_eq, e4, dm.2.2.1]
  · unfold k_dr; rw [z_up_eq, z_ro_ne _ _ (by omega), e11, dm.2.2.2]
  · rw [show k_dr G 23 = G 23 from z_up_ne _ _ (by omega), show k_dr G 24 = G 24 from z_up_ne _ _ (by omega), e _ (by omega), e _ (by omega)]
    exact dc k a (by omega)
theorem D_cg {A : Int → Int} {G : ZG} (hC : c_nw A G) {p : Int} (hp : 0 ≤ p ∧ p < A 1) : c_nw (m_cg A p) (k_cg G p) := by
  have dm := dw_m hC
  have m1 := hC.1.2.1
  have m3 := hC.1.2.2.2.1
  have m4 := hC.1.2.2.2.2.1
  have m11 := hC.1.2.2.2.2.2.2.2.2.2.2.2.1
  have mc := hC.1.2.2.2.2.2.2.2.2.2.2.2.2.2.2.2.1
  have dc := dw_c hC
  have hf := m_cg_fr A p m11.1
  have hk := k_cg_fr G p
  have ec := k_cgh_eq hC p (A 3)
  unfold m_cg k_cg at *
  rw [dm.2.2.2, dm.2.1, ec] at hk ⊢
  by_cases c : A 11 < 20 ∧ m_cgh A p (A 3) = false
  · rw [if_pos c] at hf hk ⊢
    rw [if_pos c] at *
    have r11 : z_ro (z_ro (z_ro A (106 + 2 * A 11) p) (106 + 2 * A 11 + 1) (A 3)) 11 (A 11 + 1) 11 = A 11 + 1 := z_ro_eq _ _ _
    have ro : ∀ k, 106 ≤ k → k < 106 + 2 * A 11 → z_ro (z_ro (z_ro A (106 + 2 * A 11) p) (106 + 2 * A 11 + 1) (A 3)) 11 (A 11 + 1) k = A k := fun k a b => by rw [z_ro_ne _ _ (by omega), z_ro_ne _ _ (by omega), z_ro_ne _ _ (by omega)]
    have r0 : z_ro (z_ro (z_ro A (106 + 2 * A 11) p) (106 + 2 * A 11 + 1) (A 3)) 11 (A 11 + 1) (106 + 2 * A 11) = p := by rw [z_ro_ne _ _ (by omega), z_ro_ne _ _ (by omega), z_ro_eq]
    have r1 : z_ro (z_ro (z_ro A (106 + 2 * A 11) p) (106 + 2 * A 11 + 1) (A 3)) 11 (A 11 + 1) (106 + 2 * A 11 + 1) = A 3 := by rw [z_ro_ne _ _ (by omega), z_ro_eq]
    refine D_cx hC hk.1 hf ?_ (by rw [r11]; omega) (fun k a b => ro _ (by omega) (by omega)) (fun k a b => ?_) ⟨hk.2 2 (by omega) (by omega), (hk.2 3 (by omega) (by omega)), ?_, ?_⟩ (fun k a b => ?_)
    · rw [z_ro_ne _ _ (by omega), z_ro_ne _ _ (by omega), z_ro_ne _ _ (by omega)]; exact m4
    · rw [r11] at b
      by_cases f : k = A 11
      · rw [f, r0, r1]; exact ⟨by omega, m3⟩
      · rw [ro _ (by omega) (by omega), ro _ (by omega) (by omega)]; exact mc k a (by omega)
    · rw [z_up_ne _ _ (by omega), z_up_ne _ _ (by omega), z_up_eq, z_ro_ne _ _ (by omega), dm.2.2.1, z_ro_ne _ _ (by omega), z_ro_ne _ _ (by omega), z_ro_ne _ _ (by omega)]
    · rw [z_up_ne _ _ (by omega), z_up_ne _ _ (by omega), z_up_eq, z_ro_eq, r11]
    · rw [r11] at b
      rw [z_up_ne _ _ (show 23 ≠ 24 by omega), z_up_eq, z_up_eq]
      by_cases f : k = A 11
      · rw [f, r0, r1, z_ro_eq, z_ro_eq]; exact ⟨rfl, rfl⟩
      · rw [ro _ (by omega) (by omega), ro _ (by omega) (by omega), z_ro_ne _ _ f, z_ro_ne _ _ f]; exact dc k a (by omega)
  · rw [if_neg c, if_neg c]; exact hC
theorem p_keepCough (d : Nat) (T : ZT) (G : ZG) (s : ZG × ZG) {A : Int → Int} {p : Int} (hC : c_nw A G) (hp : i_in p) : z_call (d + 2) 142 [vr 20, vi (iI p)] (z_Y T G s) = some (vi (iI 0), z_Y T (k_cg G p) s) := by
  have dm := dw_m hC
  have m3 := hC.1.2.2.2.1
  have m11 := hC.1.2.2.2.2.2.2.2.2.2.2.2.1
  have pc := fun s => p_cghK d T G s (p := p) (b := G 20 3) ⟨hp, ⟨by omega, by omega⟩⟩ hC
  by_cases c1 : G 20 5 < 20
  · cases c2 : k_cgh G p (G 20 3)
    · rw [show k_cg G p = _ from if_pos ⟨c1, c2⟩, e_Mo_keepCough]
      rw [c2] at pc
      simp -implicitDefEqProofs (disch := first | assumption | omega | rfl | (simp only [z_up_eq, z_up_app, ↓reduceIte, Nat.reduceEqDiff]; omega)) only [z_lit0, z_lit1, z_lit2, z_litl, iI_add, iI_sub, iI_mul, iI_neg, iI_and, iI_or, iI_xor, iI_shl, iI_shr, iI_ushr, iI_div, iI_b, iI_c, iI_i2l, lI_l2i, lI_add, lI_sub, lI_mul, lI_neg, lI_div, lI_or, lI_and, lI_shl, lI_shr, nI_iI, lg_lt0, lg_gt0, lg_eq0, i_ne0', l_ne0', iI_lt, iI_le, iI_eq, lI_lt, lI_le, lI_eq, zb_0, zb_fit, zb_fit0, zb_fit1, i_one_zero, i_w_in, z_tb0, z_tb1, z_tb2, z_tb3, z_tb4, z_tb5, z_tb6, z_tb7, z_tb8, z_tbl, z_tu0, z_tu1, z_tu2, z_i_62, z_i_63, z_i_86, z_i_88, z_l_Y, z_ui_62, z_ui_63, z_ui_86, z_ui_88, z_ul_Y, z_sz_Y, z_sw_Y, iI_nat, z_ix_t, z_at, Int.add_zero, Int.sub_zero, Int.zero_add, Int.mul_zero, ne_eq, Bool.false_eq_true, Bool.true_eq_false, reduceCtorEq, eq_self, and_true, true_and, and_false, false_and, and_self, not_true_eq_false, not_false_eq_true, decide_true, decide_false, ↓reduceIte, Int.reduceEq, Int.reduceNe, Int.reduceLT, Int.reduceLE, Int.reduceAdd, Int.reduceSub, Int.reduceMul, Int.reduceNeg, Nat.reduceAdd, Nat.reduceEqDiff, Nat.reduceBEq, ↓z_x_eq, z_g_t, z_bI_s, z_bL_s, z_bR_s, z_bV_s, Int.cast_ofNat_Int, beq_self_eq_true, Bool.and_true, Bool.true_and, Bool.and_self, Bool.or_true, Bool.true_or, Bool.false_and, Bool.and_false, Bool.false_or, Bool.or_false, Bool.not_false, Bool.not_true, if_true, if_false, ite_true, ite_false, z_up_eq, z_up_app, z_ro_eq, c1, pc, zb_f, z_up_up, z_up_cm]
    · rw [show k_cg G p = _ from if_neg (by rw [c2]; simp), e_Mo_keepCough]
      rw [c2] at pc
      simp -implicitDefEqProofs (disch := first | assumption | omega | rfl | (simp only [z_up_eq, z_up_app, ↓reduceIte, Nat.reduceEqDiff]; omega)) only [z_lit0, z_lit1, z_lit2, z_litl, iI_add, iI_sub, iI_mul, iI_neg, iI_and, iI_or, iI_xor, iI_shl, iI_shr, iI_ushr, iI_div, iI_b, iI_c, iI_i2l, lI_l2i, lI_add, lI_sub, lI_mul, lI_neg, lI_div, lI_or, lI_and, lI_shl, lI_shr, nI_iI, lg_lt0, lg_gt0, lg_eq0, i_ne0', l_ne0', iI_lt, iI_le, iI_eq, lI_lt, lI_le, lI_eq, zb_0, zb_fit, zb_fit0, zb_fit1, i_one_zero, i_w_in, z_tb0, z_tb1, z_tb2, z_tb3, z_tb4, z_tb5, z_tb6, z_tb7, z_tb8, z_tbl, z_tu0, z_tu1, z_tu2, z_i_62, z_i_63, z_i_86, z_i_88, z_l_Y, z_ui_62, z_ui_63, z_ui_86, z_ui_88, z_ul_Y, z_sz_Y, z_sw_Y, iI_nat, z_ix_t, z_at, Int.add_zero, Int.sub_zero, Int.zero_add, Int.mul_zero, ne_eq, Bool.false_eq_true, Bool.true_eq_false, reduceCtorEq, eq_self, and_true, true_and, and_false, false_and, and_self, not_true_eq_false, not_false_eq_true, decide_true, decide_false, ↓reduceIte, Int.reduceEq, Int.reduceNe, Int.reduceLT, Int.reduceLE, Int.reduceAdd, Int.reduceSub, Int.reduceMul, Int.reduceNeg, Nat.reduceAdd, Nat.reduceEqDiff, Nat.reduceBEq, ↓z_x_eq, z_g_t, z_bI_s, z_bL_s, z_bR_s, z_bV_s, Int.cast_ofNat_Int, beq_self_eq_true, Bool.and_true, Bool.true_and, Bool.and_self, Bool.or_true, Bool.true_or, Bool.false_and, Bool.and_false, Bool.false_or, Bool.or_false, Bool.not_false, Bool.not_true, if_true, if_false, ite_true, ite_false, z_up_eq, z_up_app, z_ro_eq, c1, pc, zb_t]
  · rw [show k_cg G p = _ from if_neg (fun q => c1 q.1), e_Mo_keepCough]
    simp -implicitDefEqProofs (disch := first | assumption | omega | rfl | (simp only [z_up_eq, z_up_app, ↓reduceIte, Nat.reduceEqDiff]; omega)) only [z_lit0, z_lit1, z_lit2, z_litl, iI_add, iI_sub, iI_mul, iI_neg, iI_and, iI_or, iI_xor, iI_shl, iI_shr, iI_ushr, iI_div, iI_b, iI_c, iI_i2l, lI_l2i, lI_add, lI_sub, lI_mul, lI_neg, lI_div, lI_or, lI_and, lI_shl, lI_shr, nI_iI, lg_lt0, lg_gt0, lg_eq0, i_ne0', l_ne0', iI_lt, iI_le, iI_eq, lI_lt, lI_le, lI_eq, zb_0, zb_fit, zb_fit0, zb_fit1, i_one_zero, i_w_in, z_tb0, z_tb1, z_tb2, z_tb3, z_tb4, z_tb5, z_tb6, z_tb7, z_tb8, z_tbl, z_tu0, z_tu1, z_tu2, z_i_62, z_i_63, z_i_86, z_i_88, z_l_Y, z_ui_62, z_ui_63, z_ui_86, z_ui_88, z_ul_Y, z_sz_Y, z_sw_Y, iI_nat, z_ix_t, z_at, Int.add_zero, Int.sub_zero, Int.zero_add, Int.mul_zero, ne_eq, Bool.false_eq_true, Bool.true_eq_false, reduceCtorEq, eq_self, and_true, true_and, and_false, false_and, and_self, not_true_eq_false, not_false_eq_true, decide_true, decide_false, ↓reduceIte, Int.reduceEq, Int.reduceNe, Int.reduceLT, Int.reduceLE, Int.reduceAdd, Int.reduceSub, Int.reduceMul, Int.reduceNeg, Nat.reduceAdd, Nat.reduceEqDiff, Nat.reduceBEq, ↓z_x_eq, z_g_t, z_bI_s, z_bL_s, z_bR_s, z_bV_s, Int.cast_ofNat_Int, beq_self_eq_true, Bool.and_true, Bool.true_and, Bool.and_self, Bool.or_true, Bool.true_or, Bool.false_and, Bool.and_false, Bool.false_or, Bool.or_false, Bool.not_false, Bool.not_true, if_true, if_false, ite_true, ite_false, z_up_eq, z_up_app, z_ro_eq, c1]
theorem p_draw (d : Nat) (T : ZT) (G : ZG) (s : ZG × ZG) {A : Int → Int} (hC : c_nw A G) : z_call (d + 1) 143 [vr 20] (z_Y T G s) = some (vi (iI (G 20 4)), z_Y T (k_dr G) s) := by
  have dm := dw_m hC
  have m4 := hC.1.2.2.2.2.1
  have rm : G 20 4 * 277 + 173 - i_div (G 20 4 * 277 + 173) 30271 * 30271 = (G 20 4 * 277 + 173) % 30271 := i_remn (by omega) (by omega)
  unfold k_dr
  rw [e_Mo_draw]
  simp -implicitDefEqProofs (disch := first | assumption | omega | rfl | (simp only [z_up_eq, z_up_app, ↓reduceIte, Nat.reduceEqDiff]; omega)) only [z_lit0, z_lit1, z_lit2, z_litl, iI_add, iI_sub, iI_mul, iI_neg, iI_and, iI_or, iI_xor, iI_shl, iI_shr, iI_ushr, iI_div, iI_b, iI_c, iI_i2l, lI_l2i, lI_add, lI_sub, lI_mul, lI_neg, lI_div, lI_or, lI_and, lI_shl, lI_shr, nI_iI, lg_lt0, lg_gt0, lg_eq0, i_ne0', l_ne0', iI_lt, iI_le, iI_eq, lI_lt, lI_le, lI_eq, zb_0, zb_fit, zb_fit0, zb_fit1, i_one_zero, i_w_in, z_tb0, z_tb1, z_tb2, z_tb3, z_tb4, z_tb5, z_tb6, z_tb7, z_tb8, z_tbl, z_tu0, z_tu1, z_tu2, z_i_62, z_i_63, z_i_86, z_i_88, z_l_Y, z_ui_62, z_ui_63, z_ui_86, z_ui_88, z_ul_Y, z_sz_Y, z_sw_Y, iI_nat, z_ix_t, z_at, Int.add_zero, Int.sub_zero, Int.zero_add, Int.mul_zero, ne_eq, Bool.false_eq_true, Bool.true_eq_false, reduceCtorEq, eq_self, and_true, true_and, and_false, false_and, and_self, not_true_eq_false, not_false_eq_true, decide_true, decide_false, ↓reduceIte, Int.reduceEq, Int.reduceNe, Int.reduceLT, Int.reduceLE, Int.reduceAdd, Int.reduceSub, Int.reduceMul, Int.reduceNeg, Nat.reduceAdd, Nat.reduceEqDiff, Nat.reduceBEq, ↓z_x_eq, z_g_t, z_bI_s, z_bL_s, z_bR_s, z_bV_s, Int.cast_ofNat_Int, beq_self_eq_true, Bool.and_true, Bool.true_and, Bool.and_self, Bool.or_true, Bool.true_or, Bool.false_and, Bool.and_false, Bool.false_or, Bool.or_false, Bool.not_false, Bool.not_true, if_true, if_false, ite_true, ite_false, z_up_eq, z_up_app, z_ro_eq, rm]
theorem p_mcoughs (d : Nat) (T : ZT) (G : ZG) (s : ZG × ZG) {p : Int} (hM : m_ok (G 81)) (hp : i_in p) : z_call (d + 2) 156 [vr 80, vi (iI p)] (z_Y T G s) = some (vi (iI (m_cg (G 81) p 11 - G 81 11)), z_Y T (z_up G 81 (m_cg (G 81) p)) s) := by
  have m3 := hM.2.2.2.1
  have m11 := hM.2.2.2.2.2.2.2.2.2.2.2.1
  have pc := fun s => p_mcgh d T G s (p := p) (b := G 81 3) ⟨hp, ⟨by omega, by omega⟩⟩ hM
  unfold m_cg
  rw [e_M_coughs_I]
  cases c2 : m_cgh (G 81) p (G 81 3)
  · rw [c2] at pc
    by_cases c1 : G 81 11 = 20
    · rw [if_neg (by omega), z_up_id, Int.sub_self]
      simp -implicitDefEqProofs (disch := first | assumption | omega | rfl | (simp only [z_up_eq, z_up_app, ↓reduceIte, Nat.reduceEqDiff]; omega)) only [z_lit0, z_lit1, z_lit2, z_litl, iI_add, iI_sub, iI_mul, iI_neg, iI_and, iI_or, iI_xor, iI_shl, iI_shr, iI_ushr, iI_div, iI_b, iI_c, iI_i2l, lI_l2i, lI_add, lI_sub, lI_mul, lI_neg, lI_div, lI_or, lI_and, lI_shl, lI_shr, nI_iI, lg_lt0, lg_gt0, lg_eq0, i_ne0', l_ne0', iI_lt, iI_le, iI_eq, lI_lt, lI_le, lI_eq, zb_0, zb_fit, zb_fit0, zb_fit1, i_one_zero, i_w_in, z_tb0, z_tb1, z_tb2, z_tb3, z_tb4, z_tb5, z_tb6, z_tb7, z_tb8, z_tbl, z_tu0, z_tu1, z_tu2, z_i_62, z_i_63, z_i_86, z_i_88, z_l_Y, z_ui_62, z_ui_63, z_ui_86, z_ui_88, z_ul_Y, z_sz_Y, z_sw_Y, iI_nat, z_ix_t, z_at, Int.add_zero, Int.sub_zero, Int.zero_add, Int.mul_zero, ne_eq, Bool.false_eq_true, Bool.true_eq_false, reduceCtorEq, eq_self, and_true, true_and, and_false, false_and, and_self, not_true_eq_false, not_false_eq_true, decide_true, decide_false, ↓reduceIte, Int.reduceEq, Int.reduceNe, Int.reduceLT, Int.reduceLE, Int.reduceAdd, Int.reduceSub, Int.reduceMul, Int.reduceNeg, Nat.reduceAdd, Nat.reduceEqDiff, Nat.reduceBEq, ↓z_x_eq, z_g_t, z_bI_s, z_bL_s, z_bR_s, z_bV_s, Int.cast_ofNat_Int, beq_self_eq_true, Bool.and_true, Bool.true_and, Bool.and_self, Bool.or_true, Bool.true_or, Bool.false_and, Bool.and_false, Bool.false_or, Bool.or_false, Bool.not_false, Bool.not_true, if_true, if_false, ite_true, ite_false, z_up_eq, z_up_app, z_ro_eq, pc, zb_f, c1]
    · rw [if_pos ⟨by omega, rfl⟩, z_ro_eq, show G 81 11 + 1 - G 81 11 = 1 by omega]
      have r1 : z_ro (G 81) (106 + 2 * G 81 11) p 11 = G 81 11 := z_ro_ne _ _ (by omega)
      have r2 : z_ro (G 81) (106 + 2 * G 81 11) p 3 = G 81 3 := z_ro_ne _ _ (by omega)
      have r3 : z_ro (z_ro (G 81) (106 + 2 * G 81 11) p) (106 + 2 * G 81 11 + 1) (G 81 3) 11 = G 81 11 := by rw [z_ro_ne _ _ (by omega)]; exact r1
      simp -implicitDefEqProofs (disch := first | assumption | omega | rfl | (simp only [z_up_eq, z_up_app, ↓reduceIte, Nat.reduceEqDiff]; omega)) only [z_lit0, z_lit1, z_lit2, z_litl, iI_add, iI_sub, iI_mul, iI_neg, iI_and, iI_or, iI_xor, iI_shl, iI_shr, iI_ushr, iI_div, iI_b, iI_c, iI_i2l, lI_l2i, lI_add, lI_sub, lI_mul, lI_neg, lI_div, lI_or, lI_and, lI_shl, lI_shr, nI_iI, lg_lt0, lg_gt0, lg_eq0, i_ne0', l_ne0', iI_lt, iI_le, iI_eq, lI_lt, lI_le, lI_eq, zb_0, zb_fit, zb_fit0, zb_fit1, i_one_zero, i_w_in, z_tb0, z_tb1, z_tb2, z_tb3, z_tb4, z_tb5, z_tb6, z_tb7, z_tb8, z_tbl, z_tu0, z_tu1, z_tu2, z_i_62, z_i_63, z_i_86, z_i_88, z_l_Y, z_ui_62, z_ui_63, z_ui_86, z_ui_88, z_ul_Y, z_sz_Y, z_sw_Y, iI_nat, z_ix_t, z_at, Int.add_zero, Int.sub_zero, Int.zero_add, Int.mul_zero, ne_eq, Bool.false_eq_true, Bool.true_eq_false, reduceCtorEq, eq_self, and_true, true_and, and_false, false_and, and_self, not_true_eq_false, not_false_eq_true, decide_true, decide_false, ↓reduceIte, Int.reduceEq, Int.reduceNe, Int.reduceLT, Int.reduceLE, Int.reduceAdd, Int.reduceSub, Int.reduceMul, Int.reduceNeg, Nat.reduceAdd, Nat.reduceEqDiff, Nat.reduceBEq, ↓z_x_eq, z_g_t, z_bI_s, z_bL_s, z_bR_s, z_bV_s, Int.cast_ofNat_Int, beq_self_eq_true, Bool.and_true, Bool.true_and, Bool.and_self, Bool.or_true, Bool.true_or, Bool.false_and, Bool.and_false, Bool.false_or, Bool.or_false, Bool.not_false, Bool.not_true, if_true, if_false, ite_true, ite_false, z_up_eq, z_up_app, z_ro_eq, pc, zb_f, c1, z_up_up, r1, r2, r3]
  · rw [c2] at pc
    rw [if_neg (by simp), z_up_id, Int.sub_self]
    simp -implicitDefEqProofs (disch := first | assumption | omega | rfl | (simp only [z_up_eq, z_up_app, ↓reduceIte, Nat.reduceEqDiff]; omega)) only [z_lit0, z_lit1, z_lit2, z_litl, iI_add, iI_sub, iI_mul, iI_neg, iI_and, iI_or, iI_xor, iI_shl, iI_shr, iI_ushr, iI_div, iI_b, iI_c, iI_i2l, lI_l2i, lI_add, lI_sub, lI_mul, lI_neg, lI_div, lI_or, lI_and, lI_shl, lI_shr, nI_iI, lg_lt0, lg_gt0, lg_eq0, i_ne0', l_ne0', iI_lt, iI_le, iI_eq, lI_lt, lI_le, lI_eq, zb_0, zb_fit, zb_fit0, zb_fit1, i_one_zero, i_w_in, z_tb0, z_tb1, z_tb2, z_tb3, z_tb4, z_tb5, z_tb6, z_tb7, z_tb8, z_tbl, z_tu0, z_tu1, z_tu2, z_i_62, z_i_63, z_i_86, z_i_88, z_l_Y, z_ui_62, z_ui_63, z_ui_86, z_ui_88, z_ul_Y, z_sz_Y, z_sw_Y, iI_nat, z_ix_t, z_at, Int.add_zero, Int.sub_zero, Int.zero_add, Int.mul_zero, ne_eq, Bool.false_eq_true, Bool.true_eq_false, reduceCtorEq, eq_self, and_true, true_and, and_false, false_and, and_self, not_true_eq_false, not_false_eq_true, decide_true, decide_false, ↓reduceIte, Int.reduceEq, Int.reduceNe, Int.reduceLT, Int.reduceLE, Int.reduceAdd, Int.reduceSub, Int.reduceMul, Int.reduceNeg, Nat.reduceAdd, Nat.reduceEqDiff, Nat.reduceBEq, ↓z_x_eq, z_g_t, z_bI_s, z_bL_s, z_bR_s, z_bV_s, Int.cast_ofNat_Int, beq_self_eq_true, Bool.and_true, Bool.true_and, Bool.and_self, Bool.or_true, Bool.true_or, Bool.false_and, Bool.and_false, Bool.false_or, Bool.or_false, Bool.not_false, Bool.not_true, if_true, if_false, ite_true, ite_false, z_up_eq, z_up_app, z_ro_eq, pc, zb_t]
theorem p_drawn (d : Nat) (T : ZT) (G : ZG) (s : ZG × ZG) (hM : m_ok (G 81)) : z_call (d + 2) 158 [vr 80] (z_Y T G s) = some (vi (iI (G 81 4 % 10)), z_Y T (z_up G 81 (m_dr (G 81))) s) := by
  have m4 := hM.2.2.2.2.1
  have rm : G 81 4 * 277 + 173 - i_div (G 81 4 * 277 + 173) 30271 * 30271 = (G 81 4 * 277 + 173) % 30271 := i_remn (by omega) (by omega)
  have r10 : G 81 4 - i_div (G 81 4) 10 * 10 = G 81 4 % 10 := i_remn (by omega) (by omega)
  unfold m_dr
  rw [e_M_drawn]
  simp -implicitDefEqProofs (disch := first | assumption | omega | rfl | (simp only [z_up_eq, z_up_app, ↓reduceIte, Nat.reduceEqDiff]; omega)) only [z_lit0, z_lit1, z_lit2, z_litl, iI_add, iI_sub, iI_mul, iI_neg, iI_and, iI_or, iI_xor, iI_shl, iI_shr, iI_ushr, iI_div, iI_b, iI_c, iI_i2l, lI_l2i, lI_add, lI_sub, lI_mul, lI_neg, lI_div, lI_or, lI_and, lI_shl, lI_shr, nI_iI, lg_lt0, lg_gt0, lg_eq0, i_ne0', l_ne0', iI_lt, iI_le, iI_eq, lI_lt, lI_le, lI_eq, zb_0, zb_fit, zb_fit0, zb_fit1, i_one_zero, i_w_in, z_tb0, z_tb1, z_tb2, z_tb3, z_tb4, z_tb5, z_tb6, z_tb7, z_tb8, z_tbl, z_tu0, z_tu1, z_tu2, z_i_62, z_i_63, z_i_86, z_i_88, z_l_Y, z_ui_62, z_ui_63, z_ui_86, z_ui_88, z_ul_Y, z_sz_Y, z_sw_Y, iI_nat, z_ix_t, z_at, Int.add_zero, Int.sub_zero, Int.zero_add, Int.mul_zero, ne_eq, Bool.false_eq_true, Bool.true_eq_false, reduceCtorEq, eq_self, and_true, true_and, and_false, false_and, and_self, not_true_eq_false, not_false_eq_true, decide_true, decide_false, ↓reduceIte, Int.reduceEq, Int.reduceNe, Int.reduceLT, Int.reduceLE, Int.reduceAdd, Int.reduceSub, Int.reduceMul, Int.reduceNeg, Nat.reduceAdd, Nat.reduceEqDiff, Nat.reduceBEq, ↓z_x_eq, z_g_t, z_bI_s, z_bL_s, z_bR_s, z_bV_s, Int.cast_ofNat_Int, beq_self_eq_true, Bool.and_true, Bool.true_and, Bool.and_self, Bool.or_true, Bool.true_or, Bool.false_and, Bool.and_false, Bool.false_or, Bool.or_false, Bool.not_false, Bool.not_true, if_true, if_false, ite_true, ite_false, z_up_eq, z_up_app, z_ro_eq, e_M_anew, rm, r10]

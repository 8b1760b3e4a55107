/-! THE PURE PART, 96: the class reads a text -/
def j_tx (K V : Nat → Int) : Nat → List UC → Nat → Int × Nat × List UC
  | 0, cs, j => (0, j, cs)
  | m + 1, cs, j => if K j = 0 then (0, j, cs) else if (j_clz K V cs j).1 = 0 then j_tx K V m (cs ++ [(j_clz K V cs j).2.2]) (j_clz K V cs j).2.1 else ((j_clz K V cs j).1, (j_clz K V cs j).2.1, cs)
/-- a text that was read, at r, its clauses at r - 1 -/
def q_Z (T0 : ZT) (G0 : ZG) (cs : List UC) (r : Nat) (T : ZT) (G : ZG) : Prop := (G 56 13 = 1 ∧ G 56 14 = 0 ∧ G 56 15 = -1) ∧ (T0.2.2.1 + 1 ≤ r ∧ T.2.2.1 = r + 1 ∧ T.2.2.1 ≤ T0.2.2.1 + 5 ∧ T.2.2.2 ≤ T0.2.2.2 + 1000) ∧ (T.1 r = (9, 0) ∧ T.2.1 r 3 = r - 1 ∧ T.1 (r - 1) = (20, 4 * cs.length) ∧ G r 4 = cs.length) ∧ (∀ k : Nat, k < cs.length → q_kl (G (r - 1)) k (cs.getD k (0, [], []))) ∧ (∀ q : Nat, q < 3 → q_lw T G T0.2.2.1 (T.2.1 r q) (j_fd q cs)) ∧ (∀ a, a < T0.2.2.1 → T.1 a = T0.1 a) ∧ (∀ a k, a < T0.2.2.1 → a ≠ 56 → T.2.1 a k = T0.2.1 a k) ∧ (∀ a, a < T0.2.2.1 → a ≠ 56 → a ≠ 59 → a ≠ 60 → G a = G0 a) ∧ cs.length ≤ 24
section
variable {T : ZT} {G : ZG} {s : ZG × ZG} {K V X : Nat → Int} {N : Nat}
theorem z_ui_hi {T : ZT} {G : ZG} {s : ZG × ZG} {r : Nat} (h : 98 ≤ r) (k : Nat) (x : Int) : z_ui (z_Y T G s) r k (iI x) = z_Y T (z_up G r (z_ro (G r) k x)) s := z_ui_Y T G s k x ⟨by omega, by omega, by omega, by omega⟩
theorem z_ur_hi {T : ZT} {G : ZG} {s : ZG × ZG} {r : Nat} (h : 98 ≤ r) (k x : Nat) : z_ur (z_Y T G s) r k x = z_Y (z_ut T r k x) G s := z_ur_Y T G s x (fun T => z_rt_hi T k h)
theorem z_kd_hi {T : ZT} {G : ZG} {s : ZG × ZG} {r : Nat} (h : 98 ≤ r) : z_kd (z_Y T G s) r = (T.1 r).1 := by
  show (z_kt T r).1 = _
  rw [z_kt_hi T h]
/-- the end of a text that can be read -/
theorem p_made {E : Nat} (hE : 3 ≤ E) {n : Int} (h12 : G 56 12 = n) (hn : 0 ≤ n ∧ n ≤ 24) (hs : 98 ≤ T.2.2.1) : ∃ T' G' s' W, (z_bR (z_call E 69 [vr 60, vi (iI (n * 4))] (z_Y T G s)) (fun v7 σ6 => z_x (z_al σ6 9 0 5) (fun σ8 => z_x (z_sz σ6) (fun u9 => z_g (z_kd σ8 56 == 7) (z_g (z_kd σ8 56 == 7) (z_g (z_kd σ8 56 == 7) (z_g (z_kd σ8 56 == 7) (z_g (!(u9 == 0) && !(u9 == 9)) (z_bV (z_call E 72 [vr u9, vr (z_r σ8 56 8), vr (z_r σ8 56 9), vr (z_r σ8 56 10), vr v7, vi (z_i σ8 56 12)] σ8) (fun σ10 => some (vr u9, σ10))))))))))) = some (vr (T.2.2.1 + 1), z_Y T' G' s') ∧ (T'.2.2.1 = T.2.2.1 + 2 ∧ T'.2.2.2 = T.2.2.2 + (4 * n).toNat + 5) ∧ (T'.1 (T.2.2.1 + 1) = (9, 0) ∧ T'.1 T.2.2.1 = (20, (4 * n).toNat) ∧ (∀ a, a < T.2.2.1 → T'.1 a = T.1 a)) ∧ (T'.2.1 (T.2.2.1 + 1) 0 = T.2.1 56 8 ∧ T'.2.1 (T.2.2.1 + 1) 1 = T.2.1 56 9 ∧ T'.2.1 (T.2.2.1 + 1) 2 = T.2.1 56 10 ∧ T'.2.1 (T.2.2.1 + 1) 3 = T.2.2.1 ∧ ∀ a k, a < T.2.2.1 → T'.2.1 a k = T.2.1 a k) ∧ (G' (T.2.2.1 + 1) 4 = n ∧ G' T.2.2.1 = W ∧ ∀ a, a < T.2.2.1 → G' a = G a) ∧ ∀ i, 0 ≤ i → i < 4 * n → W i = G 60 i := by
  obtain ⟨d, rfl⟩ : ∃ d, E = d + 1 := ⟨E - 1, by omega⟩
  obtain ⟨W, s1, e1, w1⟩ := p_copyOf (E := d + 1) (by omega) T G s (a := 60) (la := 96) (n := n * 4) (fun _ _ _ => rfl) (fun _ _ _ => rfl) (by omega) hs (by omega) (by omega)
  rw [show (n * 4).toNat = (4 * n).toNat by omega] at e1
  generalize hm : T.2.2.1 = m at *
  generalize hT1 : z_ta T 20 (4 * n).toNat (4 * n).toNat = T1 at *
  have t1 : T1.2.2.1 = m + 1 := by rw [← hT1, ← hm]; rfl
  have t2 : T1.2.2.2 = T.2.2.2 + (4 * n).toNat := by rw [← hT1]; rfl
  have t3 : ∀ a, a ≠ m → T1.1 a = T.1 a := fun a h => by rw [← hT1]; exact if_neg (by rw [hm]; exact h)
  have t4 : T1.1 m = (20, (4 * n).toNat) := by rw [← hT1]; exact if_pos hm.symm
  have t5 : ∀ a k, a ≠ m → T1.2.1 a k = T.2.1 a k := fun a k h => by rw [← hT1]; exact if_neg (by rw [hm]; exact h)
  have al := z_al_Y T1 (z_up G m W) s1 9 0 5 (by omega)
  rw [t1] at al
  generalize hT2 : z_ta T1 9 0 5 = T2 at *
  have u1 : T2.2.2.1 = m + 2 := by rw [← hT2]; show T1.2.2.1 + 1 = _; omega
  have u2 : T2.2.2.2 = T.2.2.2 + (4 * n).toNat + 5 := by rw [← hT2]; show T1.2.2.2 + 5 = _; omega
  have u3 : ∀ a, a ≠ m + 1 → T2.1 a = T1.1 a := fun a h => by rw [← hT2]; exact if_neg (by rw [t1]; exact h)
  have u4 : T2.1 (m + 1) = (9, 0) := by rw [← hT2]; exact if_pos t1.symm
  have u5 : ∀ a k, a ≠ m + 1 → T2.2.1 a k = T1.2.1 a k := fun a k h => by rw [← hT2]; exact if_neg (by rw [t1]; exact h)
  have r8 : ∀ G s, z_r (z_Y T2 G s) 56 8 = T.2.1 56 8 := fun G s => by show T2.2.1 56 8 = _; rw [u5 _ _ (by omega), t5 _ _ (by omega)]
  have r9 : ∀ G s, z_r (z_Y T2 G s) 56 9 = T.2.1 56 9 := fun G s => by show T2.2.1 56 9 = _; rw [u5 _ _ (by omega), t5 _ _ (by omega)]
  have r10 : ∀ G s, z_r (z_Y T2 G s) 56 10 = T.2.1 56 10 := fun G s => by show T2.2.1 56 10 = _; rw [u5 _ _ (by omega), t5 _ _ (by omega)]
  have kd : ∀ T' : ZT, T'.1 = T2.1 → ∀ G s, z_kd (z_Y T' G s) (m + 1) = 9 := fun T' h G s => by rw [z_kd_hi (by omega), h, u4]
  have n0 : (m + 1 == 0) = false := beq_false_of_ne (by omega)
  have n9 : (m + 1 == 9) = false := beq_false_of_ne (by omega)
  have g12 : z_up (z_up G m W) (m + 1) (fun _ => 0) 56 12 = n := by rw [z_up_ne _ _ (by omega), z_up_ne _ _ (by omega)]; exact h12
  generalize hG1 : z_up (z_up G m W) (m + 1) (fun _ => 0) = G1 at *
  have i0 : ∀ σ, z_call d 0 [vr (m + 1)] σ = some (vi 0, σ) := fun σ => by
    obtain ⟨d', rfl⟩ : ∃ d', d = d' + 1 := ⟨d - 1, by omega⟩
    show z_g (!(m + 1 == 0) && !(m + 1 == 9)) (some (vi 0, σ)) = _
    rw [n0, n9]; rfl
  generalize ha8 : T.2.1 56 8 = a8 at *
  generalize ha9 : T.2.1 56 9 = a9 at *
  generalize ha10 : T.2.1 56 10 = a10 at *
  have hi : ∀ k x (T : ZT) G s, z_ur (z_Y T G s) (m + 1) k x = z_Y (z_ut T (m + 1) k x) G s := fun k x T G s => z_ur_hi (by omega) k x
  have hu : ∀ (T : ZT) G s x, z_ui (z_Y T G s) (m + 1) 4 (iI x) = z_Y T (z_up G (m + 1) (z_ro (G (m + 1)) (4 : Nat) x)) s := fun T G s x => z_ui_hi (by omega) 4 x
  have e2 : z_call (d + 1) 72 [vr (m + 1), vr a8, vr a9, vr a10, vr m, vi (iI n)] (z_Y T2 G1 (s1.1, z_up s1.2 (m + 1) (fun _ => 0))) = some (vi (iI 0), z_Y (z_ut (z_ut (z_ut (z_ut T2 (m + 1) 0 a8) (m + 1) 1 a9) (m + 1) 2 a10) (m + 1) 3 m) (z_up G1 (m + 1) (z_ro (G1 (m + 1)) (4 : Nat) n)) (s1.1, z_up s1.2 (m + 1) (fun _ => 0))) := by
    have kd2 := kd T2 rfl
    have q9 : ((9 : Nat) == 9) = true := rfl
    simp only [e_Te_init, i0, z_bV_s, z_kd_ut, kd2, q9, z_g_t, z_x_eq, hi, hu]
    rfl
  refine ⟨z_ut (z_ut (z_ut (z_ut T2 (m + 1) 0 a8) (m + 1) 1 a9) (m + 1) 2 a10) (m + 1) 3 m, z_up G1 (m + 1) (z_ro (G1 (m + 1)) (4 : Nat) n), (s1.1, z_up s1.2 (m + 1) (fun _ => 0)), W, ?_, ⟨u1, u2⟩, ⟨u4, ?_, ?_⟩, ⟨?_, ?_, ?_, ?_, ?_⟩, ⟨?_, ?_, ?_⟩, fun i a b => w1 i a (by omega)⟩
  · have zi : ∀ s, z_i (z_Y T2 G1 s) 56 12 = iI n := fun s => by show iI (G1 56 12) = _; rw [g12]
    have k7 : ∀ s, z_kd (z_Y T2 G1 s) 56 = 7 := fun s => rfl
    have q7 : ((7 : Nat) == 7) = true := rfl
    have q1 : (!false && !false) = true := rfl
    simp only [e1, z_bR_s, z_x_eq, al, z_sz_Y, t1, r8, r9, r10, n0, n9, zi, k7, q7, q1, z_g_t, e2, z_bV_s]
  · show T2.1 m = _
    rw [u3 _ (by omega)]; exact t4
  · intro a h
    show T2.1 a = _
    rw [u3 _ (by omega), t3 _ (by omega)]
  · show (if m + 1 = m + 1 ∧ 0 = 3 then _ else if m + 1 = m + 1 ∧ 0 = 2 then _ else if m + 1 = m + 1 ∧ 0 = 1 then _ else if m + 1 = m + 1 ∧ 0 = 0 then a8 else _) = a8
    simp
  · show (if m + 1 = m + 1 ∧ 1 = 3 then _ else if m + 1 = m + 1 ∧ 1 = 2 then _ else if m + 1 = m + 1 ∧ 1 = 1 then a9 else _) = a9
    simp
  · show (if m + 1 = m + 1 ∧ 2 = 3 then _ else if m + 1 = m + 1 ∧ 2 = 2 then a10 else _) = a10
    simp
  · show (if m + 1 = m + 1 ∧ 3 = 3 then m else _) = m
    simp
  · intro a k h
    show (if a = m + 1 ∧ k = 3 then _ else if a = m + 1 ∧ k = 2 then _ else if a = m + 1 ∧ k = 1 then _ else if a = m + 1 ∧ k = 0 then a8 else T2.2.1 a k) = T.2.1 a k
    have ne : a ≠ m + 1 := by omega
    simp only [ne, false_and, if_false]
    rw [u5 _ _ ne, t5 _ _ (by omega)]
  · rw [z_up_eq]; exact z_ro_eq _ _ _
  · rw [z_up_ne _ _ (by omega), ← hG1, z_up_ne _ _ (by omega), z_up_eq]
  · intro a h
    rw [z_up_ne _ _ (by omega), ← hG1, z_up_ne _ _ (by omega), z_up_ne _ _ (by omega)]
theorem p_read_54 {E : Nat} (hE : 36 ≤ E) {T0 : ZT} {G0 : ZG} (hT : q_tk G0 K V X N) (hS : ∀ j : Int, 0 ≤ j → j < 90 → G0 2 j = y_fm.getD j.toNat 0) (h98 : 98 ≤ T0.2.2.1) : ∀ (m : Nat) (cs : List UC) (j : Nat) (T : ZT) (G : ZG) (s : ZG × ZG), m + cs.length = 25 → q_C T0 G0 K V N cs j T G → ((j_tx K V m cs j).1 = 0 → ∃ r T' G' s', z_w d_Re_read (z_call E) 54 [some (vr 56), none, none, some (vi (iI (cs.length : Int)))] [] (z_Y T G s) = some (vr r, z_Y T' G' s') ∧ q_Z T0 G0 (j_tx K V m cs j).2.2 r T' G') ∧ ((j_tx K V m cs j).1 ≠ 0 → ∃ T' G' s', z_w d_Re_read (z_call E) 54 [some (vr 56), none, none, some (vi (iI (cs.length : Int)))] [] (z_Y T G s) = some (vr 0, z_Y T' G' s') ∧ q_X T0 G0 (j_tx K V m cs j).1 (X (j_tx K V m cs j).2.1) T' G')
  | 0, cs, j, T, G, s, hm, h => by have := h.2.2.2.2.1; omega
  | m + 1, cs, j, T, G, s, hm, h => by
    have h24 := h.2.2.2.2.1
    obtain ⟨g2, g3, g4, g12, g13, g14, g15⟩ := h.1
    have c24 : (24 < (cs.length : Int)) = False := eq_false (by omega)
    have b := hT.2.2.2 j
    unfold j_tx
    by_cases k0 : K j = 0
    · rw [if_pos k0]
      refine ⟨fun _ => ?_, fun z => absurd rfl z⟩
      have k0' : (K j = 0) = True := eq_true k0
      have hkl := h.2.1
      have hlw := h.2.2.1
      obtain ⟨⟨x1, x2⟩, x3, x4, x5, x6⟩ := h.2.2.2.1
      have cn3 := c_n_le cs
      obtain ⟨T', G', s', W, e1, ⟨t1, t2⟩, ⟨t3, t4, t5⟩, ⟨r0, r1, r2, r3, r4⟩, ⟨w4, w5, w6⟩, w7⟩ := p_made (T := T) (s := s) (E := E) (by omega) g12 (by omega) (by omega)
      refine ⟨T.2.2.1 + 1, T', G', s', ?_, ?_⟩
      · rw [← e1, e_Re_read_54]
        simp -implicitDefEqProofs (disch := first | assumption | omega | rfl | (simp only [z_up_eq, z_up_app, ↓reduceIte, Nat.reduceEqDiff]; omega)) only [z_lit0, z_lit1, z_lit2, z_litl, iI_add, iI_sub, iI_mul, iI_neg, iI_and, iI_or, iI_xor, iI_shl, iI_shr, iI_ushr, iI_div, iI_b, iI_c, iI_i2l, lI_l2i, lI_add, lI_sub, lI_mul, lI_neg, lI_div, lI_or, lI_and, lI_shl, lI_shr, nI_iI, lg_lt0, lg_gt0, lg_eq0, i_ne0', l_ne0', iI_lt, iI_le, iI_eq, lI_lt, lI_le, lI_eq, zb_0, zb_fit, zb_fit0, zb_fit1, i_one_zero, i_w_in, z_tb0, z_tb1, z_tb2, z_tb3, z_tb4, z_tb5, z_tb6, z_tb7, z_tb8, z_tbl, z_tu0, z_tu1, z_tu2, z_i_62, z_i_63, z_i_86, z_i_88, z_l_Y, z_ui_62, z_ui_63, z_ui_86, z_ui_88, z_ul_Y, z_sz_Y, z_sw_Y, iI_nat, z_ix_t, z_at, Int.add_zero, Int.sub_zero, Int.zero_add, Int.mul_zero, ne_eq, Bool.false_eq_true, Bool.true_eq_false, reduceCtorEq, eq_self, and_true, true_and, and_false, false_and, and_self, not_true_eq_false, not_false_eq_true, decide_true, decide_false, ↓reduceIte, Int.reduceEq, Int.reduceNe, Int.reduceLT, Int.reduceLE, Int.reduceAdd, Int.reduceSub, Int.reduceMul, Int.reduceNeg, Nat.reduceAdd, Nat.reduceEqDiff, Nat.reduceBEq, ↓z_x_eq, z_g_t, z_bI_s, z_bL_s, z_bR_s, z_bV_s, Int.cast_ofNat_Int, beq_self_eq_true, Bool.and_true, Bool.true_and, Bool.and_self, Bool.or_true, Bool.true_or, Bool.false_and, Bool.and_false, Bool.false_or, Bool.or_false, Bool.not_false, Bool.not_true, if_true, if_false, ite_true, ite_false, z_up_eq, z_up_app, z_ro_eq, c24, g3, k0', g12]
      · have rm : T.2.2.1 + 1 - 1 = T.2.2.1 := rfl
        refine ⟨⟨?_, ?_, ?_⟩, ⟨by omega, by omega, by omega, by omega⟩, ⟨t3, by rw [r3]; rfl, ?_, w4⟩, ?_, ?_, fun a q => ?_, fun a k q q2 => ?_, fun a q q2 q3 q4 => ?_, h24⟩
        · rw [w6 56 (by omega)]; exact g13
        · rw [w6 56 (by omega)]; exact g14
        · rw [w6 56 (by omega)]; exact g15
        · rw [rm, t4]
          show (20, (4 * (cs.length : Int)).toNat) = (20, 4 * cs.length)
          rw [show (4 * (cs.length : Int)).toNat = 4 * cs.length by omega]
        · intro k a
          rw [rm, w5]
          have a' : k < cs.length := a
          obtain ⟨z1, z2, z3⟩ := hkl k a
          have z2' : (cs.getD k (0, [], [])).2.1.length ≤ 3 := z2
          exact ⟨by rw [w7 _ (by omega) (by omega)]; exact z1, z2, fun i q => by
            have q' : i < (cs.getD k (0, [], [])).2.1.length := q
            rw [w7 _ (by omega) (by omega)]; exact z3 i q⟩
        · intro q hq
          have e : T'.2.1 (T.2.2.1 + 1) q = T.2.1 56 (8 + q) := by
            rcases (show q = 0 ∨ q = 1 ∨ q = 2 by omega) with rfl | rfl | rfl
            · exact r0
            · exact r1
            · exact r2
          rw [e]
          have l0 := hlw q hq
          generalize T.2.1 56 (8 + q) = r at *
          cases z : j_fd (q : Int) cs with
          | none => rw [z] at l0; exact l0
          | some D =>
            rw [z] at l0
            obtain ⟨l1, l2, l3, l4, l5⟩ := l0
            refine ⟨l1, by omega, by rw [t5 r l2]; exact l3, l4, fun k a => ?_⟩
            rw [w6 r l2]; exact l5 k a
        · rw [t5 a (by omega)]; exact x4 a q
        · rw [r4 a k (by omega)]; exact x5 a k q q2
        · rw [w6 a (by omega)]; exact x6 a q q2 q3 q4
    · rw [if_neg k0]
      have k0' : (K j = 0) = False := eq_false k0
      have cl := p_clause (T := T) (G := G) (s := s) (E := E) hE hT hS h98 h k0
      generalize j_clz K V cs j = y at *
      by_cases yz : y.1 = 0
      · rw [if_pos yz]
        obtain ⟨T1, G1, s1, e1, h1⟩ := cl.1 yz
        have ih := p_read_54 hE hT hS h98 m (cs ++ [y.2.2]) y.2.1 T1 G1 s1 (by rw [List.length_append, List.length_singleton]; omega) h1
        have em : z_w d_Re_read (z_call E) 54 [some (vr 56), none, none, some (vi (iI (cs.length : Int)))] [] (z_Y T G s) = z_w d_Re_read (z_call E) 54 [some (vr 56), none, none, some (vi (iI ((cs ++ [y.2.2]).length : Int)))] [] (z_Y T1 G1 s1) := by
          rw [List.length_append, List.length_singleton, show ((cs.length + 1 : Nat) : Int) = (cs.length : Int) + 1 by omega, e_Re_read_54]
          simp -implicitDefEqProofs (disch := first | assumption | omega | rfl | (simp only [z_up_eq, z_up_app, ↓reduceIte, Nat.reduceEqDiff]; omega)) only [z_lit0, z_lit1, z_lit2, z_litl, iI_add, iI_sub, iI_mul, iI_neg, iI_and, iI_or, iI_xor, iI_shl, iI_shr, iI_ushr, iI_div, iI_b, iI_c, iI_i2l, lI_l2i, lI_add, lI_sub, lI_mul, lI_neg, lI_div, lI_or, lI_and, lI_shl, lI_shr, nI_iI, lg_lt0, lg_gt0, lg_eq0, i_ne0', l_ne0', iI_lt, iI_le, iI_eq, lI_lt, lI_le, lI_eq, zb_0, zb_fit, zb_fit0, zb_fit1, i_one_zero, i_w_in, z_tb0, z_tb1, z_tb2, z_tb3, z_tb4, z_tb5, z_tb6, z_tb7, z_tb8, z_tbl, z_tu0, z_tu1, z_tu2, z_i_62, z_i_63, z_i_86, z_i_88, z_l_Y, z_ui_62, z_ui_63, z_ui_86, z_ui_88, z_ul_Y, z_sz_Y, z_sw_Y, iI_nat, z_ix_t, z_at, Int.add_zero, Int.sub_zero, Int.zero_add, Int.mul_zero, ne_eq, Bool.false_eq_true, Bool.true_eq_false, reduceCtorEq, eq_self, and_true, true_and, and_false, false_and, and_self, not_true_eq_false, not_false_eq_true, decide_true, decide_false, ↓reduceIte, Int.reduceEq, Int.reduceNe, Int.reduceLT, Int.reduceLE, Int.reduceAdd, Int.reduceSub, Int.reduceMul, Int.reduceNeg, Nat.reduceAdd, Nat.reduceEqDiff, Nat.reduceBEq, ↓z_x_eq, z_g_t, z_bI_s, z_bL_s, z_bR_s, z_bV_s, Int.cast_ofNat_Int, beq_self_eq_true, Bool.and_true, Bool.true_and, Bool.and_self, Bool.or_true, Bool.true_or, Bool.false_and, Bool.and_false, Bool.false_or, Bool.or_false, Bool.not_false, Bool.not_true, if_true, if_false, ite_true, ite_false, z_up_eq, z_up_app, z_ro_eq, c24, g3, k0', e1]
        rw [em]; exact ih
      · rw [if_neg yz]
        obtain ⟨T1, G1, s1, e1, h1⟩ := cl.2 yz
        refine ⟨fun z => absurd z yz, fun _ => ⟨T1, G1, s1, ?_, h1⟩⟩
        rw [e_Re_read_54]
        simp -implicitDefEqProofs (disch := first | assumption | omega | rfl | (simp only [z_up_eq, z_up_app, ↓reduceIte, Nat.reduceEqDiff]; omega)) only [z_lit0, z_lit1, z_lit2, z_litl, iI_add, iI_sub, iI_mul, iI_neg, iI_and, iI_or, iI_xor, iI_shl, iI_shr, iI_ushr, iI_div, iI_b, iI_c, iI_i2l, lI_l2i, lI_add, lI_sub, lI_mul, lI_neg, lI_div, lI_or, lI_and, lI_shl, lI_shr, nI_iI, lg_lt0, lg_gt0, lg_eq0, i_ne0', l_ne0', iI_lt, iI_le, iI_eq, lI_lt, lI_le, lI_eq, zb_0, zb_fit, zb_fit0, zb_fit1, i_one_zero, i_w_in, z_tb0, z_tb1, z_tb2, z_tb3, z_tb4, z_tb5, z_tb6, z_tb7, z_tb8, z_tbl, z_tu0, z_tu1, z_tu2, z_i_62, z_i_63, z_i_86, z_i_88, z_l_Y, z_ui_62, z_ui_63, z_ui_86, z_ui_88, z_ul_Y, z_sz_Y, z_sw_Y, iI_nat, z_ix_t, z_at, Int.add_zero, Int.sub_zero, Int.zero_add, Int.mul_zero, ne_eq, Bool.false_eq_true, Bool.true_eq_false, reduceCtorEq, eq_self, and_true, true_and, and_false, false_and, and_self, not_true_eq_false, not_false_eq_true, decide_true, decide_false, ↓reduceIte, Int.reduceEq, Int.reduceNe, Int.reduceLT, Int.reduceLE, Int.reduceAdd, Int.reduceSub, Int.reduceMul, Int.reduceNeg, Nat.reduceAdd, Nat.reduceEqDiff, Nat.reduceBEq, ↓z_x_eq, z_g_t, z_bI_s, z_bL_s, z_bR_s, z_bV_s, Int.cast_ofNat_Int, beq_self_eq_true, Bool.and_true, Bool.true_and, Bool.and_self, Bool.or_true, Bool.true_or, Bool.false_and, Bool.and_false, Bool.false_or, Bool.or_false, Bool.not_false, Bool.not_true, if_true, if_false, ite_true, ite_false, z_up_eq, z_up_app, z_ro_eq, c24, g3, k0', e1]
end

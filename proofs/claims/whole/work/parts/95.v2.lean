/-! THE PURE PART, 85: the class's parser: ones, products, sums -/
/-- what a reader of the class gives: as the descent says -/
def q_rs (T : ZT) (s : ZG × ZG) (G : ZG) (K V X : Nat → Int) (x : UR) (C : List (Int × Int)) (v : ZR) : Prop := (x.1 = 0 → v = some (vi (iI 1), z_Y T (q_G G K V x.2.1 (C ++ x.2.2)) s)) ∧ (x.1 ≠ 0 → ∃ C', v = some (vi (iI 0), z_Y T (q_F (q_G G K V x.2.1 C') x.1 (X x.2.1)) s))
section
variable {T : ZT} {G : ZG} {s : ZG × ZG} {K V X : Nat → Int} {N : Nat}
theorem q_rs_f {x : UR} {C C' : List (Int × Int)} {v : ZR} (hx : x.1 ≠ 0) (h : v = some (vi (iI 0), z_Y T (q_F (q_G G K V x.2.1 C') x.1 (X x.2.1)) s)) : q_rs T s G K V X x C v := ⟨fun q => absurd q hx, fun _ => ⟨C', h⟩⟩
def q_an (cl : Nat → List ZV → ZM → ZR) (n : Nat) (l : List ZV) (f : ZM → ZR) : ZM → ZR := fun σ => z_g (z_kd σ 56 == 7) (z_bI (cl n l σ) (fun v τ => if v = 0 then some (vi (0 : Int32), τ) else f τ))
def q_ya : ZM → ZR := fun σ => some (vi (1 : Int32), σ)
theorem e_144m (cl : Nat → List ZV → ZM → ZR) (x1 : Int32) (σ : ZM) : z_w d_Re_readOne cl 144 [some (vr 56), some (vi x1), none] [] σ = if x1 < (8 : Int32) then z_g (z_kd σ 56 == 7) (z_g (z_kd σ 56 == 7) (z_bI (cl 59 [vr 56] σ) (fun v3 σ2 => if z_i σ 56 3 = (4 : Int32) then q_an cl 64 [vr 56, vi (x1 + (1 : Int32))] (q_an cl 62 [vr 56, vi (45 : Int32)] q_ya) σ2 else if z_i σ 56 3 = (12 : Int32) then q_an cl 66 [vr 56, vi (x1 + (1 : Int32))] (q_an cl 60 [vr 56, vi (13 : Int32)] q_ya) σ2 else q_an cl 60 [vr 56, vi (12 : Int32)] (q_an cl 66 [vr 56, vi (x1 + (1 : Int32))] (q_an cl 60 [vr 56, vi (14 : Int32)] (q_an cl 66 [vr 56, vi (x1 + (1 : Int32))] (q_an cl 60 [vr 56, vi (14 : Int32)] (q_an cl 66 [vr 56, vi (x1 + (1 : Int32))] (q_an cl 60 [vr 56, vi (13 : Int32)] (q_an cl 62 [vr 56, vi (44 : Int32)] q_ya))))))) σ2))) else z_g (z_kd σ 56 == 7) (z_bI (cl 57 [vr 56, vi (3 : Int32)] σ) (fun v29 σ28 => z_g (z_fit 1 v29) (some (vi v29, σ28)))) := e_Re_readOne_144 cl 56 x1 σ
theorem q_an_1 {cl : Nat → List ZV → ZM → ZR} {n : Nat} {l : List ZV} {f : ZM → ZR} {τ : ZM} (h : cl n l (z_Y T G s) = some (vi (iI 1), τ)) : q_an cl n l f (z_Y T G s) = f τ := by
  unfold q_an
  rw [h]; rfl
theorem q_an_0 {cl : Nat → List ZV → ZM → ZR} {n : Nat} {l : List ZV} {f : ZM → ZR} {τ : ZM} (h : cl n l (z_Y T G s) = some (vi (iI 0), τ)) : q_an cl n l f (z_Y T G s) = some (vi (iI 0), τ) := by
  unfold q_an
  rw [h]; rfl
theorem q_rs_t {j : Nat} {D C : List (Int × Int)} {v : ZR} (h : v = some (vi (iI 1), z_Y T (q_G G K V j (C ++ D)) s)) : q_rs T s G K V X (0, j, D) C v := ⟨fun _ => h, fun q => absurd rfl q⟩

theorem p_prl {E : Nat} {it : Nat → UR} {dp : Int} (hE : 2 ≤ E) (hT : q_tk G K V X N) (hpg : j_pg N it) (hit : ∀ (j : Nat) (C : List (Int × Int)), j ≤ N → C.length ≤ j → q_rs T s G K V X (it j) C (z_call E 64 [vr 56, vi (iI dp)] (z_Y T (q_G G K V j C) s))) : ∀ (m j : Nat) (i : Int) (C A : List (Int × Int)), 0 ≤ i → i + m = 300 → j ≤ N → A.length + C.length ≤ j → q_rs T s G K V X (j_lp K it 5 7 m j C) A (z_w d_Re_readProduct (z_call E) 12 [some (vr 56), some (vi (iI dp)), some (vi (iI i)), none] [] (z_Y T (q_G G K V j (A ++ C)) s))
  | 0, j, i, C, A, h0, hm, hj, hC => by
    have c1 : (i < 300) = False := eq_false (by omega)
    have e : z_w d_Re_readProduct (z_call E) 12 [some (vr 56), some (vi (iI dp)), some (vi (iI i)), none] [] (z_Y T (q_G G K V j (A ++ C)) s) = some (vi (iI 1), z_Y T (q_G G K V j (A ++ C)) s) := by
      rw [e_Re_readProduct_12]
      simp -implicitDefEqProofs (disch := first | assumption | omega | rfl | (simp only [z_up_eq, z_up_app, ↓reduceIte, Nat.reduceEqDiff]; omega)) only [z_lit0, z_lit1, z_lit2, z_litl, iI_add, iI_sub, iI_mul, iI_neg, iI_and, iI_or, iI_xor, iI_shl, iI_shr, iI_ushr, iI_div, iI_b, iI_c, iI_i2l, lI_l2i, lI_add, lI_sub, lI_mul, lI_neg, lI_div, lI_or, lI_and, lI_shl, lI_shr, nI_iI, lg_lt0, lg_gt0, lg_eq0, i_ne0', l_ne0', iI_lt, iI_le, iI_eq, lI_lt, lI_le, lI_eq, zb_0, zb_fit, zb_fit0, zb_fit1, i_one_zero, i_w_in, z_tb0, z_tb1, z_tb2, z_tb3, z_tb4, z_tb5, z_tb6, z_tb7, z_tb8, z_tbl, z_tu0, z_tu1, z_tu2, z_i_62, z_i_63, z_i_86, z_i_88, z_l_Y, z_ui_62, z_ui_63, z_ui_86, z_ui_88, z_ul_Y, z_sz_Y, z_sw_Y, iI_nat, z_ix_t, z_at, Int.add_zero, Int.sub_zero, Int.zero_add, Int.mul_zero, ne_eq, Bool.false_eq_true, Bool.true_eq_false, reduceCtorEq, eq_self, and_true, true_and, and_false, false_and, and_self, not_true_eq_false, not_false_eq_true, decide_true, decide_false, ↓reduceIte, Int.reduceEq, Int.reduceNe, Int.reduceLT, Int.reduceLE, Int.reduceAdd, Int.reduceSub, Int.reduceMul, Int.reduceNeg, Nat.reduceAdd, Nat.reduceEqDiff, Nat.reduceBEq, ↓z_x_eq, z_g_t, z_bI_s, z_bL_s, z_bR_s, z_bV_s, Int.cast_ofNat_Int, beq_self_eq_true, Bool.and_true, Bool.true_and, Bool.and_self, Bool.or_true, Bool.true_or, Bool.false_and, Bool.and_false, Bool.false_or, Bool.or_false, Bool.not_false, Bool.not_true, if_true, if_false, ite_true, ite_false, z_up_eq, z_up_app, z_ro_eq, c1]
    rw [e]
    exact ⟨fun _ => rfl, fun q => absurd rfl q⟩
  | m + 1, j, i, C, A, h0, hm, hj, hC => by
    obtain ⟨d, rfl⟩ : ∃ d, E = d + 1 := ⟨E - 1, by omega⟩
    have hN := hT.1
    have b := hT.2.2.2 j
    have c1 : (i < 300) = True := eq_true (by omega)
    have w := p_within d (a := K j) (b := 5) (c := 7) (z_Y T (q_G G K V j (A ++ C)) s) ⟨⟨by omega, by omega⟩, ⟨by omega, by omega⟩, ⟨by omega, by omega⟩⟩
    by_cases c : 5 ≤ K j ∧ K j ≤ 7
    · rw [decide_eq_true c] at w
      have jl := q_lt hT (show K j ≠ 0 by omega)
      have nx := p_rnext (T := T) (s := s) (C := A ++ C) (E := d + 1) (by omega) hT (show K j ≠ 0 by omega)
      have h := hit (j + 1) (A ++ C) (by omega) (by rw [List.length_append]; omega)
      have ej : j_lp K it 5 7 (m + 1) j C = j_bd (it (j + 1)) (fun j' D => j_lp K it 5 7 m j' (C ++ D ++ [(K j + 1, 0)])) := if_pos c
      rw [ej]
      have pg := hpg (j + 1)
      generalize it (j + 1) = x at *
      by_cases z : x.1 = 0
      · have e2 := h.1 z
        have p := pg z
        have eb : ∀ f, j_bd x f = f x.2.1 x.2.2 := fun f => if_pos z
        rw [eb]
        try dsimp only
        have en : t_enc (K j + 1) 0 = K j := by
          unfold t_enc
          rw [if_neg (by omega), if_neg (by omega), if_neg (by omega), if_neg (by omega), if_pos (by omega)]; omega
        have em := p_remit (T := T) (s := s) (G := G) (K := K) (V := V) (j := x.2.1) (E := d + 1) (by omega) (C := A ++ C ++ x.2.2) (by rw [List.length_append, List.length_append]; omega) (K j + 1) 0
        rw [en] at em
        have ea : A ++ C ++ x.2.2 ++ [(K j + 1, 0)] = A ++ (C ++ x.2.2 ++ [(K j + 1, 0)]) := by simp only [List.append_assoc]
        rw [ea] at em
        have ih := p_prl hE hT hpg hit m x.2.1 (i + 1) (C ++ x.2.2 ++ [(K j + 1, 0)]) A (by omega) (by omega) p.2.1 (by rw [List.length_append, List.length_append, List.length_singleton]; omega)
        have e : z_w d_Re_readProduct (z_call (d + 1)) 12 [some (vr 56), some (vi (iI dp)), some (vi (iI i)), none] [] (z_Y T (q_G G K V j (A ++ C)) s) = z_w d_Re_readProduct (z_call (d + 1)) 12 [some (vr 56), some (vi (iI dp)), some (vi (iI (i + 1))), none] [] (z_Y T (q_G G K V x.2.1 (A ++ (C ++ x.2.2 ++ [(K j + 1, 0)]))) s) := by
          rw [e_Re_readProduct_12]
          simp -implicitDefEqProofs (disch := first | assumption | omega | rfl | (simp only [z_up_eq, z_up_app, ↓reduceIte, Nat.reduceEqDiff]; omega)) only [z_lit0, z_lit1, z_lit2, z_litl, iI_add, iI_sub, iI_mul, iI_neg, iI_and, iI_or, iI_xor, iI_shl, iI_shr, iI_ushr, iI_div, iI_b, iI_c, iI_i2l, lI_l2i, lI_add, lI_sub, lI_mul, lI_neg, lI_div, lI_or, lI_and, lI_shl, lI_shr, nI_iI, lg_lt0, lg_gt0, lg_eq0, i_ne0', l_ne0', iI_lt, iI_le, iI_eq, lI_lt, lI_le, lI_eq, zb_0, zb_fit, zb_fit0, zb_fit1, i_one_zero, i_w_in, z_tb0, z_tb1, z_tb2, z_tb3, z_tb4, z_tb5, z_tb6, z_tb7, z_tb8, z_tbl, z_tu0, z_tu1, z_tu2, z_i_62, z_i_63, z_i_86, z_i_88, z_l_Y, z_ui_62, z_ui_63, z_ui_86, z_ui_88, z_ul_Y, z_sz_Y, z_sw_Y, iI_nat, z_ix_t, z_at, Int.add_zero, Int.sub_zero, Int.zero_add, Int.mul_zero, ne_eq, Bool.false_eq_true, Bool.true_eq_false, reduceCtorEq, eq_self, and_true, true_and, and_false, false_and, and_self, not_true_eq_false, not_false_eq_true, decide_true, decide_false, ↓reduceIte, Int.reduceEq, Int.reduceNe, Int.reduceLT, Int.reduceLE, Int.reduceAdd, Int.reduceSub, Int.reduceMul, Int.reduceNeg, Nat.reduceAdd, Nat.reduceEqDiff, Nat.reduceBEq, ↓z_x_eq, z_g_t, z_bI_s, z_bL_s, z_bR_s, z_bV_s, Int.cast_ofNat_Int, beq_self_eq_true, Bool.and_true, Bool.true_and, Bool.and_self, Bool.or_true, Bool.true_or, Bool.false_and, Bool.and_false, Bool.false_or, Bool.or_false, Bool.not_false, Bool.not_true, if_true, if_false, ite_true, ite_false, z_up_eq, z_up_app, z_ro_eq, c1, q_G_k, w, zb_t, nx, e2, em]
        rw [e]
        exact ih
      · obtain ⟨C', e2⟩ := h.2 z
        have eb : ∀ f, j_bd x f = x := fun f => if_neg z
        rw [eb]
        refine ⟨fun q => absurd q z, fun _ => ⟨C', ?_⟩⟩
        rw [e_Re_readProduct_12]
        simp -implicitDefEqProofs (disch := first | assumption | omega | rfl | (simp only [z_up_eq, z_up_app, ↓reduceIte, Nat.reduceEqDiff]; omega)) only [z_lit0, z_lit1, z_lit2, z_litl, iI_add, iI_sub, iI_mul, iI_neg, iI_and, iI_or, iI_xor, iI_shl, iI_shr, iI_ushr, iI_div, iI_b, iI_c, iI_i2l, lI_l2i, lI_add, lI_sub, lI_mul, lI_neg, lI_div, lI_or, lI_and, lI_shl, lI_shr, nI_iI, lg_lt0, lg_gt0, lg_eq0, i_ne0', l_ne0', iI_lt, iI_le, iI_eq, lI_lt, lI_le, lI_eq, zb_0, zb_fit, zb_fit0, zb_fit1, i_one_zero, i_w_in, z_tb0, z_tb1, z_tb2, z_tb3, z_tb4, z_tb5, z_tb6, z_tb7, z_tb8, z_tbl, z_tu0, z_tu1, z_tu2, z_i_62, z_i_63, z_i_86, z_i_88, z_l_Y, z_ui_62, z_ui_63, z_ui_86, z_ui_88, z_ul_Y, z_sz_Y, z_sw_Y, iI_nat, z_ix_t, z_at, Int.add_zero, Int.sub_zero, Int.zero_add, Int.mul_zero, ne_eq, Bool.false_eq_true, Bool.true_eq_false, reduceCtorEq, eq_self, and_true, true_and, and_false, false_and, and_self, not_true_eq_false, not_false_eq_true, decide_true, decide_false, ↓reduceIte, Int.reduceEq, Int.reduceNe, Int.reduceLT, Int.reduceLE, Int.reduceAdd, Int.reduceSub, Int.reduceMul, Int.reduceNeg, Nat.reduceAdd, Nat.reduceEqDiff, Nat.reduceBEq, ↓z_x_eq, z_g_t, z_bI_s, z_bL_s, z_bR_s, z_bV_s, Int.cast_ofNat_Int, beq_self_eq_true, Bool.and_true, Bool.true_and, Bool.and_self, Bool.or_true, Bool.true_or, Bool.false_and, Bool.and_false, Bool.false_or, Bool.or_false, Bool.not_false, Bool.not_true, if_true, if_false, ite_true, ite_false, z_up_eq, z_up_app, z_ro_eq, c1, q_G_k, w, zb_t, nx, e2]
    · rw [decide_eq_false c] at w
      have ej : j_lp K it 5 7 (m + 1) j C = (0, j, C) := if_neg c
      rw [ej]
      refine ⟨fun _ => ?_, fun q => absurd rfl q⟩
      rw [e_Re_readProduct_12]
      simp -implicitDefEqProofs (disch := first | assumption | omega | rfl | (simp only [z_up_eq, z_up_app, ↓reduceIte, Nat.reduceEqDiff]; omega)) only [z_lit0, z_lit1, z_lit2, z_litl, iI_add, iI_sub, iI_mul, iI_neg, iI_and, iI_or, iI_xor, iI_shl, iI_shr, iI_ushr, iI_div, iI_b, iI_c, iI_i2l, lI_l2i, lI_add, lI_sub, lI_mul, lI_neg, lI_div, lI_or, lI_and, lI_shl, lI_shr, nI_iI, lg_lt0, lg_gt0, lg_eq0, i_ne0', l_ne0', iI_lt, iI_le, iI_eq, lI_lt, lI_le, lI_eq, zb_0, zb_fit, zb_fit0, zb_fit1, i_one_zero, i_w_in, z_tb0, z_tb1, z_tb2, z_tb3, z_tb4, z_tb5, z_tb6, z_tb7, z_tb8, z_tbl, z_tu0, z_tu1, z_tu2, z_i_62, z_i_63, z_i_86, z_i_88, z_l_Y, z_ui_62, z_ui_63, z_ui_86, z_ui_88, z_ul_Y, z_sz_Y, z_sw_Y, iI_nat, z_ix_t, z_at, Int.add_zero, Int.sub_zero, Int.zero_add, Int.mul_zero, ne_eq, Bool.false_eq_true, Bool.true_eq_false, reduceCtorEq, eq_self, and_true, true_and, and_false, false_and, and_self, not_true_eq_false, not_false_eq_true, decide_true, decide_false, ↓reduceIte, Int.reduceEq, Int.reduceNe, Int.reduceLT, Int.reduceLE, Int.reduceAdd, Int.reduceSub, Int.reduceMul, Int.reduceNeg, Nat.reduceAdd, Nat.reduceEqDiff, Nat.reduceBEq, ↓z_x_eq, z_g_t, z_bI_s, z_bL_s, z_bR_s, z_bV_s, Int.cast_ofNat_Int, beq_self_eq_true, Bool.and_true, Bool.true_and, Bool.and_self, Bool.or_true, Bool.true_or, Bool.false_and, Bool.and_false, Bool.false_or, Bool.or_false, Bool.not_false, Bool.not_true, if_true, if_false, ite_true, ite_false, z_up_eq, z_up_app, z_ro_eq, c1, q_G_k, w, zb_f]
theorem p_pr {E : Nat} {it : Nat → UR} {dp : Int} (hE : 2 ≤ E) (hT : q_tk G K V X N) (hpg : j_pg N it) (hit : ∀ (j : Nat) (C : List (Int × Int)), j ≤ N → C.length ≤ j → q_rs T s G K V X (it j) C (z_call E 64 [vr 56, vi (iI dp)] (z_Y T (q_G G K V j C) s))) (j : Nat) (C : List (Int × Int)) (hj : j ≤ N) (hC : C.length ≤ j) : q_rs T s G K V X (j_ch K it 5 7 j) C (z_call (E + 1) 65 [vr 56, vi (iI dp)] (z_Y T (q_G G K V j C) s)) := by
  have h := hit j C hj hC
  have pg := hpg j
  unfold j_ch
  generalize it j = x at *
  by_cases z : x.1 = 0
  · have e2 := h.1 z
    have p := pg z
    have eb : ∀ f, j_bd x f = f x.2.1 x.2.2 := fun f => if_pos z
    rw [eb]
    have ih := p_prl hE hT hpg hit 300 x.2.1 0 x.2.2 C (by omega) (by omega) p.2.1 (by omega)
    have e : z_call (E + 1) 65 [vr 56, vi (iI dp)] (z_Y T (q_G G K V j C) s) = z_w d_Re_readProduct (z_call E) 12 [some (vr 56), some (vi (iI dp)), some (vi (iI 0)), none] [] (z_Y T (q_G G K V x.2.1 (C ++ x.2.2)) s) := by
      rw [e_Re_readProduct]
      simp -implicitDefEqProofs (disch := first | assumption | omega | rfl | (simp only [z_up_eq, z_up_app, ↓reduceIte, Nat.reduceEqDiff]; omega)) only [z_lit0, z_lit1, z_lit2, z_litl, iI_add, iI_sub, iI_mul, iI_neg, iI_and, iI_or, iI_xor, iI_shl, iI_shr, iI_ushr, iI_div, iI_b, iI_c, iI_i2l, lI_l2i, lI_add, lI_sub, lI_mul, lI_neg, lI_div, lI_or, lI_and, lI_shl, lI_shr, nI_iI, lg_lt0, lg_gt0, lg_eq0, i_ne0', l_ne0', iI_lt, iI_le, iI_eq, lI_lt, lI_le, lI_eq, zb_0, zb_fit, zb_fit0, zb_fit1, i_one_zero, i_w_in, z_tb0, z_tb1, z_tb2, z_tb3, z_tb4, z_tb5, z_tb6, z_tb7, z_tb8, z_tbl, z_tu0, z_tu1, z_tu2, z_i_62, z_i_63, z_i_86, z_i_88, z_l_Y, z_ui_62, z_ui_63, z_ui_86, z_ui_88, z_ul_Y, z_sz_Y, z_sw_Y, iI_nat, z_ix_t, z_at, Int.add_zero, Int.sub_zero, Int.zero_add, Int.mul_zero, ne_eq, Bool.false_eq_true, Bool.true_eq_false, reduceCtorEq, eq_self, and_true, true_and, and_false, false_and, and_self, not_true_eq_false, not_false_eq_true, decide_true, decide_false, ↓reduceIte, Int.reduceEq, Int.reduceNe, Int.reduceLT, Int.reduceLE, Int.reduceAdd, Int.reduceSub, Int.reduceMul, Int.reduceNeg, Nat.reduceAdd, Nat.reduceEqDiff, Nat.reduceBEq, ↓z_x_eq, z_g_t, z_bI_s, z_bL_s, z_bR_s, z_bV_s, Int.cast_ofNat_Int, beq_self_eq_true, Bool.and_true, Bool.true_and, Bool.and_self, Bool.or_true, Bool.true_or, Bool.false_and, Bool.and_false, Bool.false_or, Bool.or_false, Bool.not_false, Bool.not_true, if_true, if_false, ite_true, ite_false, z_up_eq, z_up_app, z_ro_eq, e2]
    rw [e]
    exact ih
  · obtain ⟨C', e2⟩ := h.2 z
    have eb : ∀ f, j_bd x f = x := fun f => if_neg z
    rw [eb]
    refine ⟨fun q => absurd q z, fun _ => ⟨C', ?_⟩⟩
    rw [e_Re_readProduct]
    simp -implicitDefEqProofs (disch := first | assumption | omega | rfl | (simp only [z_up_eq, z_up_app, ↓reduceIte, Nat.reduceEqDiff]; omega)) only [z_lit0, z_lit1, z_lit2, z_litl, iI_add, iI_sub, iI_mul, iI_neg, iI_and, iI_or, iI_xor, iI_shl, iI_shr, iI_ushr, iI_div, iI_b, iI_c, iI_i2l, lI_l2i, lI_add, lI_sub, lI_mul, lI_neg, lI_div, lI_or, lI_and, lI_shl, lI_shr, nI_iI, lg_lt0, lg_gt0, lg_eq0, i_ne0', l_ne0', iI_lt, iI_le, iI_eq, lI_lt, lI_le, lI_eq, zb_0, zb_fit, zb_fit0, zb_fit1, i_one_zero, i_w_in, z_tb0, z_tb1, z_tb2, z_tb3, z_tb4, z_tb5, z_tb6, z_tb7, z_tb8, z_tbl, z_tu0, z_tu1, z_tu2, z_i_62, z_i_63, z_i_86, z_i_88, z_l_Y, z_ui_62, z_ui_63, z_ui_86, z_ui_88, z_ul_Y, z_sz_Y, z_sw_Y, iI_nat, z_ix_t, z_at, Int.add_zero, Int.sub_zero, Int.zero_add, Int.mul_zero, ne_eq, Bool.false_eq_true, Bool.true_eq_false, reduceCtorEq, eq_self, and_true, true_and, and_false, false_and, and_self, not_true_eq_false, not_false_eq_true, decide_true, decide_false, ↓reduceIte, Int.reduceEq, Int.reduceNe, Int.reduceLT, Int.reduceLE, Int.reduceAdd, Int.reduceSub, Int.reduceMul, Int.reduceNeg, Nat.reduceAdd, Nat.reduceEqDiff, Nat.reduceBEq, ↓z_x_eq, z_g_t, z_bI_s, z_bL_s, z_bR_s, z_bV_s, Int.cast_ofNat_Int, beq_self_eq_true, Bool.and_true, Bool.true_and, Bool.and_self, Bool.or_true, Bool.true_or, Bool.false_and, Bool.and_false, Bool.false_or, Bool.or_false, Bool.not_false, Bool.not_true, if_true, if_false, ite_true, ite_false, z_up_eq, z_up_app, z_ro_eq, e2]

theorem p_sul {E : Nat} {it : Nat → UR} {dp : Int} (hE : 2 ≤ E) (hT : q_tk G K V X N) (hpg : j_pg N it) (hit : ∀ (j : Nat) (C : List (Int × Int)), j ≤ N → C.length ≤ j → q_rs T s G K V X (it j) C (z_call E 65 [vr 56, vi (iI dp)] (z_Y T (q_G G K V j C) s))) : ∀ (m j : Nat) (i : Int) (C A : List (Int × Int)), 0 ≤ i → i + m = 300 → j ≤ N → A.length + C.length ≤ j → q_rs T s G K V X (j_lp K it 3 4 m j C) A (z_w d_Re_readSum (z_call E) 12 [some (vr 56), some (vi (iI dp)), some (vi (iI i)), none] [] (z_Y T (q_G G K V j (A ++ C)) s))
  | 0, j, i, C, A, h0, hm, hj, hC => by
    have c1 : (i < 300) = False := eq_false (by omega)
    have e : z_w d_Re_readSum (z_call E) 12 [some (vr 56), some (vi (iI dp)), some (vi (iI i)), none] [] (z_Y T (q_G G K V j (A ++ C)) s) = some (vi (iI 1), z_Y T (q_G G K V j (A ++ C)) s) := by
      rw [e_Re_readSum_12]
      simp -implicitDefEqProofs (disch := first | assumption | omega | rfl | (simp only [z_up_eq, z_up_app, ↓reduceIte, Nat.reduceEqDiff]; omega)) only [z_lit0, z_lit1, z_lit2, z_litl, iI_add, iI_sub, iI_mul, iI_neg, iI_and, iI_or, iI_xor, iI_shl, iI_shr, iI_ushr, iI_div, iI_b, iI_c, iI_i2l, lI_l2i, lI_add, lI_sub, lI_mul, lI_neg, lI_div, lI_or, lI_and, lI_shl, lI_shr, nI_iI, lg_lt0, lg_gt0, lg_eq0, i_ne0', l_ne0', iI_lt, iI_le, iI_eq, lI_lt, lI_le, lI_eq, zb_0, zb_fit, zb_fit0, zb_fit1, i_one_zero, i_w_in, z_tb0, z_tb1, z_tb2, z_tb3, z_tb4, z_tb5, z_tb6, z_tb7, z_tb8, z_tbl, z_tu0, z_tu1, z_tu2, z_i_62, z_i_63, z_i_86, z_i_88, z_l_Y, z_ui_62, z_ui_63, z_ui_86, z_ui_88, z_ul_Y, z_sz_Y, z_sw_Y, iI_nat, z_ix_t, z_at, Int.add_zero, Int.sub_zero, Int.zero_add, Int.mul_zero, ne_eq, Bool.false_eq_true, Bool.true_eq_false, reduceCtorEq, eq_self, and_true, true_and, and_false, false_and, and_self, not_true_eq_false, not_false_eq_true, decide_true, decide_false, ↓reduceIte, Int.reduceEq, Int.reduceNe, Int.reduceLT, Int.reduceLE, Int.reduceAdd, Int.reduceSub, Int.reduceMul, Int.reduceNeg, Nat.reduceAdd, Nat.reduceEqDiff, Nat.reduceBEq, ↓z_x_eq, z_g_t, z_bI_s, z_bL_s, z_bR_s, z_bV_s, Int.cast_ofNat_Int, beq_self_eq_true, Bool.and_true, Bool.true_and, Bool.and_self, Bool.or_true, Bool.true_or, Bool.false_and, Bool.and_false, Bool.false_or, Bool.or_false, Bool.not_false, Bool.not_true, if_true, if_false, ite_true, ite_false, z_up_eq, z_up_app, z_ro_eq, c1]
    rw [e]
    exact ⟨fun _ => rfl, fun q => absurd rfl q⟩
  | m + 1, j, i, C, A, h0, hm, hj, hC => by
    obtain ⟨d, rfl⟩ : ∃ d, E = d + 1 := ⟨E - 1, by omega⟩
    have hN := hT.1
    have b := hT.2.2.2 j
    have c1 : (i < 300) = True := eq_true (by omega)
    have w := p_within d (a := K j) (b := 3) (c := 4) (z_Y T (q_G G K V j (A ++ C)) s) ⟨⟨by omega, by omega⟩, ⟨by omega, by omega⟩, ⟨by omega, by omega⟩⟩
    by_cases c : 3 ≤ K j ∧ K j ≤ 4
    · rw [decide_eq_true c] at w
      have jl := q_lt hT (show K j ≠ 0 by omega)
      have nx := p_rnext (T := T) (s := s) (C := A ++ C) (E := d + 1) (by omega) hT (show K j ≠ 0 by omega)
      have h := hit (j + 1) (A ++ C) (by omega) (by rw [List.length_append]; omega)
      have ej : j_lp K it 3 4 (m + 1) j C = j_bd (it (j + 1)) (fun j' D => j_lp K it 3 4 m j' (C ++ D ++ [(K j + 1, 0)])) := if_pos c
      rw [ej]
      have pg := hpg (j + 1)
      generalize it (j + 1) = x at *
      by_cases z : x.1 = 0
      · have e2 := h.1 z
        have p := pg z
        have eb : ∀ f, j_bd x f = f x.2.1 x.2.2 := fun f => if_pos z
        rw [eb]
        try dsimp only
        have en : t_enc (K j + 1) 0 = K j := by
          unfold t_enc
          rw [if_neg (by omega), if_neg (by omega), if_neg (by omega), if_neg (by omega), if_pos (by omega)]; omega
        have em := p_remit (T := T) (s := s) (G := G) (K := K) (V := V) (j := x.2.1) (E := d + 1) (by omega) (C := A ++ C ++ x.2.2) (by rw [List.length_append, List.length_append]; omega) (K j + 1) 0
        rw [en] at em
        have ea : A ++ C ++ x.2.2 ++ [(K j + 1, 0)] = A ++ (C ++ x.2.2 ++ [(K j + 1, 0)]) := by simp only [List.append_assoc]
        rw [ea] at em
        have ih := p_sul hE hT hpg hit m x.2.1 (i + 1) (C ++ x.2.2 ++ [(K j + 1, 0)]) A (by omega) (by omega) p.2.1 (by rw [List.length_append, List.length_append, List.length_singleton]; omega)
        have e : z_w d_Re_readSum (z_call (d + 1)) 12 [some (vr 56), some (vi (iI dp)), some (vi (iI i)), none] [] (z_Y T (q_G G K V j (A ++ C)) s) = z_w d_Re_readSum (z_call (d + 1)) 12 [some (vr 56), some (vi (iI dp)), some (vi (iI (i + 1))), none] [] (z_Y T (q_G G K V x.2.1 (A ++ (C ++ x.2.2 ++ [(K j + 1, 0)]))) s) := by
          rw [e_Re_readSum_12]
          simp -implicitDefEqProofs (disch := first | assumption | omega | rfl | (simp only [z_up_eq, z_up_app, ↓reduceIte, Nat.reduceEqDiff]; omega)) only [z_lit0, z_lit1, z_lit2, z_litl, iI_add, iI_sub, iI_mul, iI_neg, iI_and, iI_or, iI_xor, iI_shl, iI_shr, iI_ushr, iI_div, iI_b, iI_c, iI_i2l, lI_l2i, lI_add, lI_sub, lI_mul, lI_neg, lI_div, lI_or, lI_and, lI_shl, lI_shr, nI_iI, lg_lt0, lg_gt0, lg_eq0, i_ne0', l_ne0', iI_lt, iI_le, iI_eq, lI_lt, lI_le, lI_eq, zb_0, zb_fit, zb_fit0, zb_fit1, i_one_zero, i_w_in, z_tb0, z_tb1, z_tb2, z_tb3, z_tb4, z_tb5, z_tb6, z_tb7, z_tb8, z_tbl, z_tu0, z_tu1, z_tu2, z_i_62, z_i_63, z_i_86, z_i_88, z_l_Y, z_ui_62, z_ui_63, z_ui_86, z_ui_88, z_ul_Y, z_sz_Y, z_sw_Y, iI_nat, z_ix_t, z_at, Int.add_zero, Int.sub_zero, Int.zero_add, Int.mul_zero, ne_eq, Bool.false_eq_true, Bool.true_eq_false, reduceCtorEq, eq_self, and_true, true_and, and_false, false_and, and_self, not_true_eq_false, not_false_eq_true, decide_true, decide_false, ↓reduceIte, Int.reduceEq, Int.reduceNe, Int.reduceLT, Int.reduceLE, Int.reduceAdd, Int.reduceSub, Int.reduceMul, Int.reduceNeg, Nat.reduceAdd, Nat.reduceEqDiff, Nat.reduceBEq, ↓z_x_eq, z_g_t, z_bI_s, z_bL_s, z_bR_s, z_bV_s, Int.cast_ofNat_Int, beq_self_eq_true, Bool.and_true, Bool.true_and, Bool.and_self, Bool.or_true, Bool.true_or, Bool.false_and, Bool.and_false, Bool.false_or, Bool.or_false, Bool.not_false, Bool.not_true, if_true, if_false, ite_true, ite_false, z_up_eq, z_up_app, z_ro_eq, c1, q_G_k, w, zb_t, nx, e2, em]
        rw [e]
        exact ih
      · obtain ⟨C', e2⟩ := h.2 z
        have eb : ∀ f, j_bd x f = x := fun f => if_neg z
        rw [eb]
        refine ⟨fun q => absurd q z, fun _ => ⟨C', ?_⟩⟩
        rw [e_Re_readSum_12]
        simp -implicitDefEqProofs (disch := first | assumption | omega | rfl | (simp only [z_up_eq, z_up_app, ↓reduceIte, Nat.reduceEqDiff]; omega)) only [z_lit0, z_lit1, z_lit2, z_litl, iI_add, iI_sub, iI_mul, iI_neg, iI_and, iI_or, iI_xor, iI_shl, iI_shr, iI_ushr, iI_div, iI_b, iI_c, iI_i2l, lI_l2i, lI_add, lI_sub, lI_mul, lI_neg, lI_div, lI_or, lI_and, lI_shl, lI_shr, nI_iI, lg_lt0, lg_gt0, lg_eq0, i_ne0', l_ne0', iI_lt, iI_le, iI_eq, lI_lt, lI_le, lI_eq, zb_0, zb_fit, zb_fit0, zb_fit1, i_one_zero, i_w_in, z_tb0, z_tb1, z_tb2, z_tb3, z_tb4, z_tb5, z_tb6, z_tb7, z_tb8, z_tbl, z_tu0, z_tu1, z_tu2, z_i_62, z_i_63, z_i_86, z_i_88, z_l_Y, z_ui_62, z_ui_63, z_ui_86, z_ui_88, z_ul_Y, z_sz_Y, z_sw_Y, iI_nat, z_ix_t, z_at, Int.add_zero, Int.sub_zero, Int.zero_add, Int.mul_zero, ne_eq, Bool.false_eq_true, Bool.true_eq_false, reduceCtorEq, eq_self, and_true, true_and, and_false, false_and, and_self, not_true_eq_false, not_false_eq_true, decide_true, decide_false, ↓reduceIte, Int.reduceEq, Int.reduceNe, Int.reduceLT, Int.reduceLE, Int.reduceAdd, Int.reduceSub, Int.reduceMul, Int.reduceNeg, Nat.reduceAdd, Nat.reduceEqDiff, Nat.reduceBEq, ↓z_x_eq, z_g_t, z_bI_s, z_bL_s, z_bR_s, z_bV_s, Int.cast_ofNat_Int, beq_self_eq_true, Bool.and_true, Bool.true_and, Bool.and_self, Bool.or_true, Bool.true_or, Bool.false_and, Bool.and_false, Bool.false_or, Bool.or_false, Bool.not_false, Bool.not_true, if_true, if_false, ite_true, ite_false, z_up_eq, z_up_app, z_ro_eq, c1, q_G_k, w, zb_t, nx, e2]
    · rw [decide_eq_false c] at w
      have ej : j_lp K it 3 4 (m + 1) j C = (0, j, C) := if_neg c
      rw [ej]
      refine ⟨fun _ => ?_, fun q => absurd rfl q⟩
      rw [e_Re_readSum_12]
      simp -implicitDefEqProofs (disch := first | assumption | omega | rfl | (simp only [z_up_eq, z_up_app, ↓reduceIte, Nat.reduceEqDiff]; omega)) only [z_lit0, z_lit1, z_lit2, z_litl, iI_add, iI_sub, iI_mul, iI_neg, iI_and, iI_or, iI_xor, iI_shl, iI_shr, iI_ushr, iI_div, iI_b, iI_c, iI_i2l, lI_l2i, lI_add, lI_sub, lI_mul, lI_neg, lI_div, lI_or, lI_and, lI_shl, lI_shr, nI_iI, lg_lt0, lg_gt0, lg_eq0, i_ne0', l_ne0', iI_lt, iI_le, iI_eq, lI_lt, lI_le, lI_eq, zb_0, zb_fit, zb_fit0, zb_fit1, i_one_zero, i_w_in, z_tb0, z_tb1, z_tb2, z_tb3, z_tb4, z_tb5, z_tb6, z_tb7, z_tb8, z_tbl, z_tu0, z_tu1, z_tu2, z_i_62, z_i_63, z_i_86, z_i_88, z_l_Y, z_ui_62, z_ui_63, z_ui_86, z_ui_88, z_ul_Y, z_sz_Y, z_sw_Y, iI_nat, z_ix_t, z_at, Int.add_zero, Int.sub_zero, Int.zero_add, Int.mul_zero, ne_eq, Bool.false_eq_true, Bool.true_eq_false, reduceCtorEq, eq_self, and_true, true_and, and_false, false_and, and_self, not_true_eq_false, not_false_eq_true, decide_true, decide_false, ↓reduceIte, Int.reduceEq, Int.reduceNe, Int.reduceLT, Int.reduceLE, Int.reduceAdd, Int.reduceSub, Int.reduceMul, Int.reduceNeg, Nat.reduceAdd, Nat.reduceEqDiff, Nat.reduceBEq, ↓z_x_eq, z_g_t, z_bI_s, z_bL_s, z_bR_s, z_bV_s, Int.cast_ofNat_Int, beq_self_eq_true, Bool.and_true, Bool.true_and, Bool.and_self, Bool.or_true, Bool.true_or, Bool.false_and, Bool.and_false, Bool.false_or, Bool.or_false, Bool.not_false, Bool.not_true, if_true, if_false, ite_true, ite_false, z_up_eq, z_up_app, z_ro_eq, c1, q_G_k, w, zb_f]
theorem p_su {E : Nat} {it : Nat → UR} {dp : Int} (hE : 2 ≤ E) (hT : q_tk G K V X N) (hpg : j_pg N it) (hit : ∀ (j : Nat) (C : List (Int × Int)), j ≤ N → C.length ≤ j → q_rs T s G K V X (it j) C (z_call E 65 [vr 56, vi (iI dp)] (z_Y T (q_G G K V j C) s))) (j : Nat) (C : List (Int × Int)) (hj : j ≤ N) (hC : C.length ≤ j) : q_rs T s G K V X (j_ch K it 3 4 j) C (z_call (E + 1) 66 [vr 56, vi (iI dp)] (z_Y T (q_G G K V j C) s)) := by
  have h := hit j C hj hC
  have pg := hpg j
  unfold j_ch
  generalize it j = x at *
  by_cases z : x.1 = 0
  · have e2 := h.1 z
    have p := pg z
    have eb : ∀ f, j_bd x f = f x.2.1 x.2.2 := fun f => if_pos z
    rw [eb]
    have ih := p_sul hE hT hpg hit 300 x.2.1 0 x.2.2 C (by omega) (by omega) p.2.1 (by omega)
    have e : z_call (E + 1) 66 [vr 56, vi (iI dp)] (z_Y T (q_G G K V j C) s) = z_w d_Re_readSum (z_call E) 12 [some (vr 56), some (vi (iI dp)), some (vi (iI 0)), none] [] (z_Y T (q_G G K V x.2.1 (C ++ x.2.2)) s) := by
      rw [e_Re_readSum]
      simp -implicitDefEqProofs (disch := first | assumption | omega | rfl | (simp only [z_up_eq, z_up_app, ↓reduceIte, Nat.reduceEqDiff]; omega)) only [z_lit0, z_lit1, z_lit2, z_litl, iI_add, iI_sub, iI_mul, iI_neg, iI_and, iI_or, iI_xor, iI_shl, iI_shr, iI_ushr, iI_div, iI_b, iI_c, iI_i2l, lI_l2i, lI_add, lI_sub, lI_mul, lI_neg, lI_div, lI_or, lI_and, lI_shl, lI_shr, nI_iI, lg_lt0, lg_gt0, lg_eq0, i_ne0', l_ne0', iI_lt, iI_le, iI_eq, lI_lt, lI_le, lI_eq, zb_0, zb_fit, zb_fit0, zb_fit1, i_one_zero, i_w_in, z_tb0, z_tb1, z_tb2, z_tb3, z_tb4, z_tb5, z_tb6, z_tb7, z_tb8, z_tbl, z_tu0, z_tu1, z_tu2, z_i_62, z_i_63, z_i_86, z_i_88, z_l_Y, z_ui_62, z_ui_63, z_ui_86, z_ui_88, z_ul_Y, z_sz_Y, z_sw_Y, iI_nat, z_ix_t, z_at, Int.add_zero, Int.sub_zero, Int.zero_add, Int.mul_zero, ne_eq, Bool.false_eq_true, Bool.true_eq_false, reduceCtorEq, eq_self, and_true, true_and, and_false, false_and, and_self, not_true_eq_false, not_false_eq_true, decide_true, decide_false, ↓reduceIte, Int.reduceEq, Int.reduceNe, Int.reduceLT, Int.reduceLE, Int.reduceAdd, Int.reduceSub, Int.reduceMul, Int.reduceNeg, Nat.reduceAdd, Nat.reduceEqDiff, Nat.reduceBEq, ↓z_x_eq, z_g_t, z_bI_s, z_bL_s, z_bR_s, z_bV_s, Int.cast_ofNat_Int, beq_self_eq_true, Bool.and_true, Bool.true_and, Bool.and_self, Bool.or_true, Bool.true_or, Bool.false_and, Bool.and_false, Bool.false_or, Bool.or_false, Bool.not_false, Bool.not_true, if_true, if_false, ite_true, ite_false, z_up_eq, z_up_app, z_ro_eq, e2]
    rw [e]
    exact ih
  · obtain ⟨C', e2⟩ := h.2 z
    have eb : ∀ f, j_bd x f = x := fun f => if_neg z
    rw [eb]
    refine ⟨fun q => absurd q z, fun _ => ⟨C', ?_⟩⟩
    rw [e_Re_readSum]
    simp -implicitDefEqProofs (disch := first | assumption | omega | rfl | (simp only [z_up_eq, z_up_app, ↓reduceIte, Nat.reduceEqDiff]; omega)) only [z_lit0, z_lit1, z_lit2, z_litl, iI_add, iI_sub, iI_mul, iI_neg, iI_and, iI_or, iI_xor, iI_shl, iI_shr, iI_ushr, iI_div, iI_b, iI_c, iI_i2l, lI_l2i, lI_add, lI_sub, lI_mul, lI_neg, lI_div, lI_or, lI_and, lI_shl, lI_shr, nI_iI, lg_lt0, lg_gt0, lg_eq0, i_ne0', l_ne0', iI_lt, iI_le, iI_eq, lI_lt, lI_le, lI_eq, zb_0, zb_fit, zb_fit0, zb_fit1, i_one_zero, i_w_in, z_tb0, z_tb1, z_tb2, z_tb3, z_tb4, z_tb5, z_tb6, z_tb7, z_tb8, z_tbl, z_tu0, z_tu1, z_tu2, z_i_62, z_i_63, z_i_86, z_i_88, z_l_Y, z_ui_62, z_ui_63, z_ui_86, z_ui_88, z_ul_Y, z_sz_Y, z_sw_Y, iI_nat, z_ix_t, z_at, Int.add_zero, Int.sub_zero, Int.zero_add, Int.mul_zero, ne_eq, Bool.false_eq_true, Bool.true_eq_false, reduceCtorEq, eq_self, and_true, true_and, and_false, false_and, and_self, not_true_eq_false, not_false_eq_true, decide_true, decide_false, ↓reduceIte, Int.reduceEq, Int.reduceNe, Int.reduceLT, Int.reduceLE, Int.reduceAdd, Int.reduceSub, Int.reduceMul, Int.reduceNeg, Nat.reduceAdd, Nat.reduceEqDiff, Nat.reduceBEq, ↓z_x_eq, z_g_t, z_bI_s, z_bL_s, z_bR_s, z_bV_s, Int.cast_ofNat_Int, beq_self_eq_true, Bool.and_true, Bool.true_and, Bool.and_self, Bool.or_true, Bool.true_or, Bool.false_and, Bool.and_false, Bool.false_or, Bool.or_false, Bool.not_false, Bool.not_true, if_true, if_false, ite_true, ite_false, z_up_eq, z_up_app, z_ro_eq, e2]

theorem p_sm {E r : Nat} {nm : Int → Bool} {dp : Int} (hE : 2 ≤ E) (hT : q_tk G K V X N) (hit : ∀ (j : Nat) (C : List (Int × Int)), j ≤ N → C.length ≤ j → q_rs T s G K V X (j_one K V nm r j) C (z_call E 64 [vr 56, vi (iI dp)] (z_Y T (q_G G K V j C) s))) (j : Nat) (C : List (Int × Int)) (hj : j ≤ N) (hC : C.length ≤ j) : q_rs T s G K V X (j_sm K (j_one K V nm r) j) C (z_call (E + 2) 66 [vr 56, vi (iI dp)] (z_Y T (q_G G K V j C) s)) := by
  have pg := j_one_pg (K := K) (V := V) (nm := nm) hT.1 hT.2.1 r
  have pg2 := (j_ch_pg hT.1 hT.2.1 pg (lo := 5) (hi' := 7) (by omega)).1
  exact p_su (by omega) hT pg2 (fun j C a b => p_pr hE hT pg hit j C a b) j C hj hC
/-- an atom, or what stands open -/
theorem p_at {E : Nat} {q : Int} {x : UR} {dp : Int} (hE : 3 ≤ E) (hT : q_tk G K V X N) (hl : G 56 7 = 28 + q) (hq : 0 ≤ q ∧ q ≤ 2) (j : Nat) (C : List (Int × Int)) (hj : j ≤ N) (hC : C.length ≤ j) (hx : K j = 12 ∨ K j = 4 ∨ K j = 44 → q_rs T s G K V X x C (z_w d_Re_readOne (z_call E) 144 [some (vr 56), some (vi (iI dp)), none] [] (z_Y T (q_G G K V j C) s))) : q_rs T s G K V X (j_at K V (j_nm q) j x) C (z_call (E + 1) 64 [vr 56, vi (iI dp)] (z_Y T (q_G G K V j C) s)) := by
  obtain ⟨d, rfl⟩ : ∃ d, E = d + 1 := ⟨E - 1, by omega⟩
  have hN := hT.1
  have b := hT.2.2.2 j
  have rf := fun n => p_rref (T := T) (s := s) (C := C) (E := d + 1) (by omega) hT hj n
  have w := p_within d (a := K j) (b := 18) (c := 27) (z_Y T (q_G G K V j C) s) ⟨⟨by omega, by omega⟩, ⟨by omega, by omega⟩, ⟨by omega, by omega⟩⟩
  unfold j_at
  by_cases c1 : K j = 2
  · have c1' : (K j = 2) = True := eq_true c1
    have jl := q_lt hT (show K j ≠ 0 by omega)
    rw [if_pos c1]
    by_cases c2 : 9999 < V j
    · have c2' : (9999 < V j) = True := eq_true c2
      rw [if_pos c2]
      refine q_rs_f (C' := C) (by show (2 : Int) ≠ 0; decide) ?_
      rw [e_Re_readOne]
      simp -implicitDefEqProofs (disch := first | assumption | omega | rfl | (simp only [z_up_eq, z_up_app, ↓reduceIte, Nat.reduceEqDiff]; omega)) only [z_lit0, z_lit1, z_lit2, z_litl, iI_add, iI_sub, iI_mul, iI_neg, iI_and, iI_or, iI_xor, iI_shl, iI_shr, iI_ushr, iI_div, iI_b, iI_c, iI_i2l, lI_l2i, lI_add, lI_sub, lI_mul, lI_neg, lI_div, lI_or, lI_and, lI_shl, lI_shr, nI_iI, lg_lt0, lg_gt0, lg_eq0, i_ne0', l_ne0', iI_lt, iI_le, iI_eq, lI_lt, lI_le, lI_eq, zb_0, zb_fit, zb_fit0, zb_fit1, i_one_zero, i_w_in, z_tb0, z_tb1, z_tb2, z_tb3, z_tb4, z_tb5, z_tb6, z_tb7, z_tb8, z_tbl, z_tu0, z_tu1, z_tu2, z_i_62, z_i_63, z_i_86, z_i_88, z_l_Y, z_ui_62, z_ui_63, z_ui_86, z_ui_88, z_ul_Y, z_sz_Y, z_sw_Y, iI_nat, z_ix_t, z_at, Int.add_zero, Int.sub_zero, Int.zero_add, Int.mul_zero, ne_eq, Bool.false_eq_true, Bool.true_eq_false, reduceCtorEq, eq_self, and_true, true_and, and_false, false_and, and_self, not_true_eq_false, not_false_eq_true, decide_true, decide_false, ↓reduceIte, Int.reduceEq, Int.reduceNe, Int.reduceLT, Int.reduceLE, Int.reduceAdd, Int.reduceSub, Int.reduceMul, Int.reduceNeg, Nat.reduceAdd, Nat.reduceEqDiff, Nat.reduceBEq, ↓z_x_eq, z_g_t, z_bI_s, z_bL_s, z_bR_s, z_bV_s, Int.cast_ofNat_Int, beq_self_eq_true, Bool.and_true, Bool.true_and, Bool.and_self, Bool.or_true, Bool.true_or, Bool.false_and, Bool.and_false, Bool.false_or, Bool.or_false, Bool.not_false, Bool.not_true, if_true, if_false, ite_true, ite_false, z_up_eq, z_up_app, z_ro_eq, q_G_k, q_G_v, c1', c2', rf]
    · have c2' : (9999 < V j) = False := eq_false c2
      rw [if_neg c2]
      have sh := y_shl6 (n := V j) (by omega)
      have em := p_remit (T := T) (s := s) (G := G) (K := K) (V := V) (j := j) (E := d + 1) (by omega) (C := C) (by omega) 0 (V j)
      rw [show t_enc 0 (V j) = 2 + 64 * V j from if_pos rfl] at em
      have nx := p_rnext (T := T) (s := s) (C := C ++ [(0, V j)]) (E := d + 1) (by omega) hT (show K j ≠ 0 by omega)
      refine q_rs_t ?_
      rw [e_Re_readOne]
      simp -implicitDefEqProofs (disch := first | assumption | omega | rfl | (simp only [z_up_eq, z_up_app, ↓reduceIte, Nat.reduceEqDiff]; omega)) only [z_lit0, z_lit1, z_lit2, z_litl, iI_add, iI_sub, iI_mul, iI_neg, iI_and, iI_or, iI_xor, iI_shl, iI_shr, iI_ushr, iI_div, iI_b, iI_c, iI_i2l, lI_l2i, lI_add, lI_sub, lI_mul, lI_neg, lI_div, lI_or, lI_and, lI_shl, lI_shr, nI_iI, lg_lt0, lg_gt0, lg_eq0, i_ne0', l_ne0', iI_lt, iI_le, iI_eq, lI_lt, lI_le, lI_eq, zb_0, zb_fit, zb_fit0, zb_fit1, i_one_zero, i_w_in, z_tb0, z_tb1, z_tb2, z_tb3, z_tb4, z_tb5, z_tb6, z_tb7, z_tb8, z_tbl, z_tu0, z_tu1, z_tu2, z_i_62, z_i_63, z_i_86, z_i_88, z_l_Y, z_ui_62, z_ui_63, z_ui_86, z_ui_88, z_ul_Y, z_sz_Y, z_sw_Y, iI_nat, z_ix_t, z_at, Int.add_zero, Int.sub_zero, Int.zero_add, Int.mul_zero, ne_eq, Bool.false_eq_true, Bool.true_eq_false, reduceCtorEq, eq_self, and_true, true_and, and_false, false_and, and_self, not_true_eq_false, not_false_eq_true, decide_true, decide_false, ↓reduceIte, Int.reduceEq, Int.reduceNe, Int.reduceLT, Int.reduceLE, Int.reduceAdd, Int.reduceSub, Int.reduceMul, Int.reduceNeg, Nat.reduceAdd, Nat.reduceEqDiff, Nat.reduceBEq, ↓z_x_eq, z_g_t, z_bI_s, z_bL_s, z_bR_s, z_bV_s, Int.cast_ofNat_Int, beq_self_eq_true, Bool.and_true, Bool.true_and, Bool.and_self, Bool.or_true, Bool.true_or, Bool.false_and, Bool.and_false, Bool.false_or, Bool.or_false, Bool.not_false, Bool.not_true, if_true, if_false, ite_true, ite_false, z_up_eq, z_up_app, z_ro_eq, q_G_k, q_G_v, c1', c2', sh, em, nx]
  · have c1' : (K j = 2) = False := eq_false c1
    rw [if_neg c1]
    by_cases c2 : 18 ≤ K j ∧ K j ≤ 27
    · rw [decide_eq_true c2] at w
      have jl := q_lt hT (show K j ≠ 0 by omega)
      rw [if_pos c2]
      have nl := p_rname (T := T) (s := s) (E := d + 1) (by omega) (q := q) (k := K j) (q_G G K V j C) (by rw [q_G_l]; exact hl) hq c2
      by_cases c3 : j_nm q (K j - 18) = true
      · rw [c3] at nl
        rw [if_pos c3]
        have em := p_remit (T := T) (s := s) (G := G) (K := K) (V := V) (j := j) (E := d + 1) (by omega) (C := C) (by omega) 1 (K j - 18)
        rw [show t_enc 1 (K j - 18) = K j from (if_neg (by decide)).trans ((if_pos rfl).trans (by omega))] at em
        have nx := p_rnext (T := T) (s := s) (C := C ++ [(1, K j - 18)]) (E := d + 1) (by omega) hT (show K j ≠ 0 by omega)
        refine q_rs_t ?_
        rw [e_Re_readOne]
        simp -implicitDefEqProofs (disch := first | assumption | omega | rfl | (simp only [z_up_eq, z_up_app, ↓reduceIte, Nat.reduceEqDiff]; omega)) only [z_lit0, z_lit1, z_lit2, z_litl, iI_add, iI_sub, iI_mul, iI_neg, iI_and, iI_or, iI_xor, iI_shl, iI_shr, iI_ushr, iI_div, iI_b, iI_c, iI_i2l, lI_l2i, lI_add, lI_sub, lI_mul, lI_neg, lI_div, lI_or, lI_and, lI_shl, lI_shr, nI_iI, lg_lt0, lg_gt0, lg_eq0, i_ne0', l_ne0', iI_lt, iI_le, iI_eq, lI_lt, lI_le, lI_eq, zb_0, zb_fit, zb_fit0, zb_fit1, i_one_zero, i_w_in, z_tb0, z_tb1, z_tb2, z_tb3, z_tb4, z_tb5, z_tb6, z_tb7, z_tb8, z_tbl, z_tu0, z_tu1, z_tu2, z_i_62, z_i_63, z_i_86, z_i_88, z_l_Y, z_ui_62, z_ui_63, z_ui_86, z_ui_88, z_ul_Y, z_sz_Y, z_sw_Y, iI_nat, z_ix_t, z_at, Int.add_zero, Int.sub_zero, Int.zero_add, Int.mul_zero, ne_eq, Bool.false_eq_true, Bool.true_eq_false, reduceCtorEq, eq_self, and_true, true_and, and_false, false_and, and_self, not_true_eq_false, not_false_eq_true, decide_true, decide_false, ↓reduceIte, Int.reduceEq, Int.reduceNe, Int.reduceLT, Int.reduceLE, Int.reduceAdd, Int.reduceSub, Int.reduceMul, Int.reduceNeg, Nat.reduceAdd, Nat.reduceEqDiff, Nat.reduceBEq, ↓z_x_eq, z_g_t, z_bI_s, z_bL_s, z_bR_s, z_bV_s, Int.cast_ofNat_Int, beq_self_eq_true, Bool.and_true, Bool.true_and, Bool.and_self, Bool.or_true, Bool.true_or, Bool.false_and, Bool.and_false, Bool.false_or, Bool.or_false, Bool.not_false, Bool.not_true, if_true, if_false, ite_true, ite_false, z_up_eq, z_up_app, z_ro_eq, q_G_k, c1', w, zb_t, nl, em, nx]
      · have c3' : j_nm q (K j - 18) = false := by
          cases h : j_nm q (K j - 18)
          · rfl
          · exact absurd h c3
        rw [c3'] at nl
        rw [if_neg c3]
        refine q_rs_f (C' := C) (by show (5 : Int) ≠ 0; decide) ?_
        rw [e_Re_readOne]
        simp -implicitDefEqProofs (disch := first | assumption | omega | rfl | (simp only [z_up_eq, z_up_app, ↓reduceIte, Nat.reduceEqDiff]; omega)) only [z_lit0, z_lit1, z_lit2, z_litl, iI_add, iI_sub, iI_mul, iI_neg, iI_and, iI_or, iI_xor, iI_shl, iI_shr, iI_ushr, iI_div, iI_b, iI_c, iI_i2l, lI_l2i, lI_add, lI_sub, lI_mul, lI_neg, lI_div, lI_or, lI_and, lI_shl, lI_shr, nI_iI, lg_lt0, lg_gt0, lg_eq0, i_ne0', l_ne0', iI_lt, iI_le, iI_eq, lI_lt, lI_le, lI_eq, zb_0, zb_fit, zb_fit0, zb_fit1, i_one_zero, i_w_in, z_tb0, z_tb1, z_tb2, z_tb3, z_tb4, z_tb5, z_tb6, z_tb7, z_tb8, z_tbl, z_tu0, z_tu1, z_tu2, z_i_62, z_i_63, z_i_86, z_i_88, z_l_Y, z_ui_62, z_ui_63, z_ui_86, z_ui_88, z_ul_Y, z_sz_Y, z_sw_Y, iI_nat, z_ix_t, z_at, Int.add_zero, Int.sub_zero, Int.zero_add, Int.mul_zero, ne_eq, Bool.false_eq_true, Bool.true_eq_false, reduceCtorEq, eq_self, and_true, true_and, and_false, false_and, and_self, not_true_eq_false, not_false_eq_true, decide_true, decide_false, ↓reduceIte, Int.reduceEq, Int.reduceNe, Int.reduceLT, Int.reduceLE, Int.reduceAdd, Int.reduceSub, Int.reduceMul, Int.reduceNeg, Nat.reduceAdd, Nat.reduceEqDiff, Nat.reduceBEq, ↓z_x_eq, z_g_t, z_bI_s, z_bL_s, z_bR_s, z_bV_s, Int.cast_ofNat_Int, beq_self_eq_true, Bool.and_true, Bool.true_and, Bool.and_self, Bool.or_true, Bool.true_or, Bool.false_and, Bool.and_false, Bool.false_or, Bool.or_false, Bool.not_false, Bool.not_true, if_true, if_false, ite_true, ite_false, z_up_eq, z_up_app, z_ro_eq, q_G_k, c1', w, zb_t, zb_f, nl, rf]
    · rw [decide_eq_false c2] at w
      rw [if_neg c2]
      by_cases c3 : K j = 12 ∨ K j = 4 ∨ K j = 44
      · rw [if_pos c3]
        have e : z_call (d + 1 + 1) 64 [vr 56, vi (iI dp)] (z_Y T (q_G G K V j C) s) = z_w d_Re_readOne (z_call (d + 1)) 144 [some (vr 56), some (vi (iI dp)), none] [] (z_Y T (q_G G K V j C) s) := by
          rw [e_Re_readOne]
          by_cases c4 : K j = 12
          · have c4' : (K j = 12) = True := eq_true c4
            simp -implicitDefEqProofs (disch := first | assumption | omega | rfl | (simp only [z_up_eq, z_up_app, ↓reduceIte, Nat.reduceEqDiff]; omega)) only [z_lit0, z_lit1, z_lit2, z_litl, iI_add, iI_sub, iI_mul, iI_neg, iI_and, iI_or, iI_xor, iI_shl, iI_shr, iI_ushr, iI_div, iI_b, iI_c, iI_i2l, lI_l2i, lI_add, lI_sub, lI_mul, lI_neg, lI_div, lI_or, lI_and, lI_shl, lI_shr, nI_iI, lg_lt0, lg_gt0, lg_eq0, i_ne0', l_ne0', iI_lt, iI_le, iI_eq, lI_lt, lI_le, lI_eq, zb_0, zb_fit, zb_fit0, zb_fit1, i_one_zero, i_w_in, z_tb0, z_tb1, z_tb2, z_tb3, z_tb4, z_tb5, z_tb6, z_tb7, z_tb8, z_tbl, z_tu0, z_tu1, z_tu2, z_i_62, z_i_63, z_i_86, z_i_88, z_l_Y, z_ui_62, z_ui_63, z_ui_86, z_ui_88, z_ul_Y, z_sz_Y, z_sw_Y, iI_nat, z_ix_t, z_at, Int.add_zero, Int.sub_zero, Int.zero_add, Int.mul_zero, ne_eq, Bool.false_eq_true, Bool.true_eq_false, reduceCtorEq, eq_self, and_true, true_and, and_false, false_and, and_self, not_true_eq_false, not_false_eq_true, decide_true, decide_false, ↓reduceIte, Int.reduceEq, Int.reduceNe, Int.reduceLT, Int.reduceLE, Int.reduceAdd, Int.reduceSub, Int.reduceMul, Int.reduceNeg, Nat.reduceAdd, Nat.reduceEqDiff, Nat.reduceBEq, ↓z_x_eq, z_g_t, z_bI_s, z_bL_s, z_bR_s, z_bV_s, Int.cast_ofNat_Int, beq_self_eq_true, Bool.and_true, Bool.true_and, Bool.and_self, Bool.or_true, Bool.true_or, Bool.false_and, Bool.and_false, Bool.false_or, Bool.or_false, Bool.not_false, Bool.not_true, if_true, if_false, ite_true, ite_false, z_up_eq, z_up_app, z_ro_eq, q_G_k, c1', w, zb_f, c4']
          · have c4' : (K j = 12) = False := eq_false c4
            by_cases c5 : K j = 4
            · have c5' : (K j = 4) = True := eq_true c5
              simp -implicitDefEqProofs (disch := first | assumption | omega | rfl | (simp only [z_up_eq, z_up_app, ↓reduceIte, Nat.reduceEqDiff]; omega)) only [z_lit0, z_lit1, z_lit2, z_litl, iI_add, iI_sub, iI_mul, iI_neg, iI_and, iI_or, iI_xor, iI_shl, iI_shr, iI_ushr, iI_div, iI_b, iI_c, iI_i2l, lI_l2i, lI_add, lI_sub, lI_mul, lI_neg, lI_div, lI_or, lI_and, lI_shl, lI_shr, nI_iI, lg_lt0, lg_gt0, lg_eq0, i_ne0', l_ne0', iI_lt, iI_le, iI_eq, lI_lt, lI_le, lI_eq, zb_0, zb_fit, zb_fit0, zb_fit1, i_one_zero, i_w_in, z_tb0, z_tb1, z_tb2, z_tb3, z_tb4, z_tb5, z_tb6, z_tb7, z_tb8, z_tbl, z_tu0, z_tu1, z_tu2, z_i_62, z_i_63, z_i_86, z_i_88, z_l_Y, z_ui_62, z_ui_63, z_ui_86, z_ui_88, z_ul_Y, z_sz_Y, z_sw_Y, iI_nat, z_ix_t, z_at, Int.add_zero, Int.sub_zero, Int.zero_add, Int.mul_zero, ne_eq, Bool.false_eq_true, Bool.true_eq_false, reduceCtorEq, eq_self, and_true, true_and, and_false, false_and, and_self, not_true_eq_false, not_false_eq_true, decide_true, decide_false, ↓reduceIte, Int.reduceEq, Int.reduceNe, Int.reduceLT, Int.reduceLE, Int.reduceAdd, Int.reduceSub, Int.reduceMul, Int.reduceNeg, Nat.reduceAdd, Nat.reduceEqDiff, Nat.reduceBEq, ↓z_x_eq, z_g_t, z_bI_s, z_bL_s, z_bR_s, z_bV_s, Int.cast_ofNat_Int, beq_self_eq_true, Bool.and_true, Bool.true_and, Bool.and_self, Bool.or_true, Bool.true_or, Bool.false_and, Bool.and_false, Bool.false_or, Bool.or_false, Bool.not_false, Bool.not_true, if_true, if_false, ite_true, ite_false, z_up_eq, z_up_app, z_ro_eq, q_G_k, c1', w, zb_f, c4', c5']
            · have c5' : (K j = 4) = False := eq_false c5
              have c6' : (K j = 44) = True := eq_true (by omega)
              simp -implicitDefEqProofs (disch := first | assumption | omega | rfl | (simp only [z_up_eq, z_up_app, ↓reduceIte, Nat.reduceEqDiff]; omega)) only [z_lit0, z_lit1, z_lit2, z_litl, iI_add, iI_sub, iI_mul, iI_neg, iI_and, iI_or, iI_xor, iI_shl, iI_shr, iI_ushr, iI_div, iI_b, iI_c, iI_i2l, lI_l2i, lI_add, lI_sub, lI_mul, lI_neg, lI_div, lI_or, lI_and, lI_shl, lI_shr, nI_iI, lg_lt0, lg_gt0, lg_eq0, i_ne0', l_ne0', iI_lt, iI_le, iI_eq, lI_lt, lI_le, lI_eq, zb_0, zb_fit, zb_fit0, zb_fit1, i_one_zero, i_w_in, z_tb0, z_tb1, z_tb2, z_tb3, z_tb4, z_tb5, z_tb6, z_tb7, z_tb8, z_tbl, z_tu0, z_tu1, z_tu2, z_i_62, z_i_63, z_i_86, z_i_88, z_l_Y, z_ui_62, z_ui_63, z_ui_86, z_ui_88, z_ul_Y, z_sz_Y, z_sw_Y, iI_nat, z_ix_t, z_at, Int.add_zero, Int.sub_zero, Int.zero_add, Int.mul_zero, ne_eq, Bool.false_eq_true, Bool.true_eq_false, reduceCtorEq, eq_self, and_true, true_and, and_false, false_and, and_self, not_true_eq_false, not_false_eq_true, decide_true, decide_false, ↓reduceIte, Int.reduceEq, Int.reduceNe, Int.reduceLT, Int.reduceLE, Int.reduceAdd, Int.reduceSub, Int.reduceMul, Int.reduceNeg, Nat.reduceAdd, Nat.reduceEqDiff, Nat.reduceBEq, ↓z_x_eq, z_g_t, z_bI_s, z_bL_s, z_bR_s, z_bV_s, Int.cast_ofNat_Int, beq_self_eq_true, Bool.and_true, Bool.true_and, Bool.and_self, Bool.or_true, Bool.true_or, Bool.false_and, Bool.and_false, Bool.false_or, Bool.or_false, Bool.not_false, Bool.not_true, if_true, if_false, ite_true, ite_false, z_up_eq, z_up_app, z_ro_eq, q_G_k, c1', w, zb_f, c4', c5', c6']
        rw [e]
        exact hx c3
      · rw [if_neg c3]
        have c4' : (K j = 12) = False := eq_false (by omega)
        have c5' : (K j = 4) = False := eq_false (by omega)
        have c6' : (K j = 44) = False := eq_false (by omega)
        refine q_rs_f (C' := C) (by show (1 : Int) ≠ 0; decide) ?_
        rw [e_Re_readOne]
        simp -implicitDefEqProofs (disch := first | assumption | omega | rfl | (simp only [z_up_eq, z_up_app, ↓reduceIte, Nat.reduceEqDiff]; omega)) only [z_lit0, z_lit1, z_lit2, z_litl, iI_add, iI_sub, iI_mul, iI_neg, iI_and, iI_or, iI_xor, iI_shl, iI_shr, iI_ushr, iI_div, iI_b, iI_c, iI_i2l, lI_l2i, lI_add, lI_sub, lI_mul, lI_neg, lI_div, lI_or, lI_and, lI_shl, lI_shr, nI_iI, lg_lt0, lg_gt0, lg_eq0, i_ne0', l_ne0', iI_lt, iI_le, iI_eq, lI_lt, lI_le, lI_eq, zb_0, zb_fit, zb_fit0, zb_fit1, i_one_zero, i_w_in, z_tb0, z_tb1, z_tb2, z_tb3, z_tb4, z_tb5, z_tb6, z_tb7, z_tb8, z_tbl, z_tu0, z_tu1, z_tu2, z_i_62, z_i_63, z_i_86, z_i_88, z_l_Y, z_ui_62, z_ui_63, z_ui_86, z_ui_88, z_ul_Y, z_sz_Y, z_sw_Y, iI_nat, z_ix_t, z_at, Int.add_zero, Int.sub_zero, Int.zero_add, Int.mul_zero, ne_eq, Bool.false_eq_true, Bool.true_eq_false, reduceCtorEq, eq_self, and_true, true_and, and_false, false_and, and_self, not_true_eq_false, not_false_eq_true, decide_true, decide_false, ↓reduceIte, Int.reduceEq, Int.reduceNe, Int.reduceLT, Int.reduceLE, Int.reduceAdd, Int.reduceSub, Int.reduceMul, Int.reduceNeg, Nat.reduceAdd, Nat.reduceEqDiff, Nat.reduceBEq, ↓z_x_eq, z_g_t, z_bI_s, z_bL_s, z_bR_s, z_bV_s, Int.cast_ofNat_Int, beq_self_eq_true, Bool.and_true, Bool.true_and, Bool.and_self, Bool.or_true, Bool.true_or, Bool.false_and, Bool.and_false, Bool.false_or, Bool.or_false, Bool.not_false, Bool.not_true, if_true, if_false, ite_true, ite_false, z_up_eq, z_up_app, z_ro_eq, q_G_k, c1', w, zb_f, c4', c5', c6', rf]
theorem q_bd0 {x : UR} (z : x.1 = 0) (f : Nat → List (Int × Int) → UR) : j_bd x f = f x.2.1 x.2.2 := if_pos z
theorem q_bd1 {x : UR} (z : x.1 ≠ 0) (f : Nat → List (Int × Int) → UR) : j_bd x f = x := if_neg z
theorem p_one {q : Int} (hT : q_tk G K V X N) (hl : G 56 7 = 28 + q) (hq : 0 ≤ q ∧ q ≤ 2) : ∀ (r E : Nat) (dp : Int), 3 * r + 4 ≤ E → (0 ≤ dp ∧ dp + r = 8) → ∀ (j : Nat) (C : List (Int × Int)), j ≤ N → C.length ≤ j → q_rs T s G K V X (j_one K V (j_nm q) r j) C (z_call E 64 [vr 56, vi (iI dp)] (z_Y T (q_G G K V j C) s))
  | 0, E, dp, hE, hd, j, C, hj, hC => by
    obtain ⟨d, rfl⟩ : ∃ d, E = d + 1 := ⟨E - 1, by omega⟩
    refine p_at (by omega) hT hl hq j C hj hC (fun _ => ?_)
    have c8 : (dp < 8) = False := eq_false (by omega)
    have rf := p_rref (T := T) (s := s) (C := C) (E := d) (by omega) hT hj 3
    refine q_rs_f (C' := C) (by show (3 : Int) ≠ 0; decide) ?_
    rw [e_144m]
    simp -implicitDefEqProofs (disch := first | assumption | omega | rfl | (simp only [z_up_eq, z_up_app, ↓reduceIte, Nat.reduceEqDiff]; omega)) only [z_lit0, z_lit1, z_lit2, z_litl, iI_add, iI_sub, iI_mul, iI_neg, iI_and, iI_or, iI_xor, iI_shl, iI_shr, iI_ushr, iI_div, iI_b, iI_c, iI_i2l, lI_l2i, lI_add, lI_sub, lI_mul, lI_neg, lI_div, lI_or, lI_and, lI_shl, lI_shr, nI_iI, lg_lt0, lg_gt0, lg_eq0, i_ne0', l_ne0', iI_lt, iI_le, iI_eq, lI_lt, lI_le, lI_eq, zb_0, zb_fit, zb_fit0, zb_fit1, i_one_zero, i_w_in, z_tb0, z_tb1, z_tb2, z_tb3, z_tb4, z_tb5, z_tb6, z_tb7, z_tb8, z_tbl, z_tu0, z_tu1, z_tu2, z_i_62, z_i_63, z_i_86, z_i_88, z_l_Y, z_ui_62, z_ui_63, z_ui_86, z_ui_88, z_ul_Y, z_sz_Y, z_sw_Y, iI_nat, z_ix_t, z_at, Int.add_zero, Int.sub_zero, Int.zero_add, Int.mul_zero, ne_eq, Bool.false_eq_true, Bool.true_eq_false, reduceCtorEq, eq_self, and_true, true_and, and_false, false_and, and_self, not_true_eq_false, not_false_eq_true, decide_true, decide_false, ↓reduceIte, Int.reduceEq, Int.reduceNe, Int.reduceLT, Int.reduceLE, Int.reduceAdd, Int.reduceSub, Int.reduceMul, Int.reduceNeg, Nat.reduceAdd, Nat.reduceEqDiff, Nat.reduceBEq, ↓z_x_eq, z_g_t, z_bI_s, z_bL_s, z_bR_s, z_bV_s, Int.cast_ofNat_Int, beq_self_eq_true, Bool.and_true, Bool.true_and, Bool.and_self, Bool.or_true, Bool.true_or, Bool.false_and, Bool.and_false, Bool.false_or, Bool.or_false, Bool.not_false, Bool.not_true, if_true, if_false, ite_true, ite_false, z_up_eq, z_up_app, z_ro_eq, c8, rf]
  | r + 1, E, dp, hE, hd, j, C, hj, hC => by
    obtain ⟨d, rfl⟩ : ∃ d, E = d + 4 := ⟨E - 4, by omega⟩
    have ih := fun E dp => p_one hT hl hq r E dp
    have sm := p_sm (T := T) (s := s) (E := d + 1) (dp := dp + 1) (by omega) hT (ih (d + 1) (dp + 1) (by omega) (by omega))
    have one := ih (d + 3) (dp + 1) (by omega) (by omega)
    have pg1 := j_one_pg (K := K) (V := V) (nm := j_nm q) hT.1 hT.2.1 r
    have pgs := (j_sm_pg hT.1 hT.2.1 pg1).1
    refine p_at (E := d + 3) (by omega) hT hl hq j C hj hC (fun h => ?_)
    have hN := hT.1
    have b := hT.2.2.2 j
    have jl := q_lt hT (show K j ≠ 0 by omega)
    have c8 : (dp < 8) = True := eq_true (by omega)
    have nx := p_rnext (T := T) (s := s) (C := C) (E := d + 3) (by omega) hT (show K j ≠ 0 by omega)
    have ex := fun j C hj k hk => p_rexp (T := T) (s := s) (E := d + 3) (by omega) hT (j := j) (C := C) hj (k := k) hk
    by_cases c1 : K j = 4
    · have c1' : (K j = 4) = True := eq_true c1
      rw [if_pos c1]
      have h1 := one (j + 1) C (by omega) (by omega)
      have p1 := pg1 (j + 1)
      generalize j_one K V (j_nm q) r (j + 1) = x at *
      by_cases z : x.1 = 0
      · have e2 := h1.1 z
        have p := p1 z
        have em := p_remit (T := T) (s := s) (G := G) (K := K) (V := V) (j := x.2.1) (E := d + 3) (by omega) (C := C ++ x.2.2) (by rw [List.length_append]; omega) 3 0
        rw [show t_enc 3 0 = 45 from rfl, List.append_assoc] at em
        rw [q_bd0 z]
        refine q_rs_t ?_
        rw [e_144m]
        simp -implicitDefEqProofs (disch := first | assumption | omega | rfl | (simp only [z_up_eq, z_up_app, ↓reduceIte, Nat.reduceEqDiff]; omega)) only [z_lit0, z_lit1, z_lit2, z_litl, iI_add, iI_sub, iI_mul, iI_neg, iI_and, iI_or, iI_xor, iI_shl, iI_shr, iI_ushr, iI_div, iI_b, iI_c, iI_i2l, lI_l2i, lI_add, lI_sub, lI_mul, lI_neg, lI_div, lI_or, lI_and, lI_shl, lI_shr, nI_iI, lg_lt0, lg_gt0, lg_eq0, i_ne0', l_ne0', iI_lt, iI_le, iI_eq, lI_lt, lI_le, lI_eq, zb_0, zb_fit, zb_fit0, zb_fit1, i_one_zero, i_w_in, z_tb0, z_tb1, z_tb2, z_tb3, z_tb4, z_tb5, z_tb6, z_tb7, z_tb8, z_tbl, z_tu0, z_tu1, z_tu2, z_i_62, z_i_63, z_i_86, z_i_88, z_l_Y, z_ui_62, z_ui_63, z_ui_86, z_ui_88, z_ul_Y, z_sz_Y, z_sw_Y, iI_nat, z_ix_t, z_at, Int.add_zero, Int.sub_zero, Int.zero_add, Int.mul_zero, ne_eq, Bool.false_eq_true, Bool.true_eq_false, reduceCtorEq, eq_self, and_true, true_and, and_false, false_and, and_self, not_true_eq_false, not_false_eq_true, decide_true, decide_false, ↓reduceIte, Int.reduceEq, Int.reduceNe, Int.reduceLT, Int.reduceLE, Int.reduceAdd, Int.reduceSub, Int.reduceMul, Int.reduceNeg, Nat.reduceAdd, Nat.reduceEqDiff, Nat.reduceBEq, ↓z_x_eq, z_g_t, z_bI_s, z_bL_s, z_bR_s, z_bV_s, Int.cast_ofNat_Int, beq_self_eq_true, Bool.and_true, Bool.true_and, Bool.and_self, Bool.or_true, Bool.true_or, Bool.false_and, Bool.and_false, Bool.false_or, Bool.or_false, Bool.not_false, Bool.not_true, if_true, if_false, ite_true, ite_false, z_up_eq, z_up_app, z_ro_eq, c8, q_G_k, nx, c1']
        rw [q_an_1 e2, q_an_1 em]
        rfl
      · obtain ⟨C', e2⟩ := h1.2 z
        rw [q_bd1 z]
        refine q_rs_f (C' := C') z ?_
        rw [e_144m]
        simp -implicitDefEqProofs (disch := first | assumption | omega | rfl | (simp only [z_up_eq, z_up_app, ↓reduceIte, Nat.reduceEqDiff]; omega)) only [z_lit0, z_lit1, z_lit2, z_litl, iI_add, iI_sub, iI_mul, iI_neg, iI_and, iI_or, iI_xor, iI_shl, iI_shr, iI_ushr, iI_div, iI_b, iI_c, iI_i2l, lI_l2i, lI_add, lI_sub, lI_mul, lI_neg, lI_div, lI_or, lI_and, lI_shl, lI_shr, nI_iI, lg_lt0, lg_gt0, lg_eq0, i_ne0', l_ne0', iI_lt, iI_le, iI_eq, lI_lt, lI_le, lI_eq, zb_0, zb_fit, zb_fit0, zb_fit1, i_one_zero, i_w_in, z_tb0, z_tb1, z_tb2, z_tb3, z_tb4, z_tb5, z_tb6, z_tb7, z_tb8, z_tbl, z_tu0, z_tu1, z_tu2, z_i_62, z_i_63, z_i_86, z_i_88, z_l_Y, z_ui_62, z_ui_63, z_ui_86, z_ui_88, z_ul_Y, z_sz_Y, z_sw_Y, iI_nat, z_ix_t, z_at, Int.add_zero, Int.sub_zero, Int.zero_add, Int.mul_zero, ne_eq, Bool.false_eq_true, Bool.true_eq_false, reduceCtorEq, eq_self, and_true, true_and, and_false, false_and, and_self, not_true_eq_false, not_false_eq_true, decide_true, decide_false, ↓reduceIte, Int.reduceEq, Int.reduceNe, Int.reduceLT, Int.reduceLE, Int.reduceAdd, Int.reduceSub, Int.reduceMul, Int.reduceNeg, Nat.reduceAdd, Nat.reduceEqDiff, Nat.reduceBEq, ↓z_x_eq, z_g_t, z_bI_s, z_bL_s, z_bR_s, z_bV_s, Int.cast_ofNat_Int, beq_self_eq_true, Bool.and_true, Bool.true_and, Bool.and_self, Bool.or_true, Bool.true_or, Bool.false_and, Bool.and_false, Bool.false_or, Bool.or_false, Bool.not_false, Bool.not_true, if_true, if_false, ite_true, ite_false, z_up_eq, z_up_app, z_ro_eq, c8, q_G_k, nx, c1']
        rw [q_an_0 e2]
    · have c1' : (K j = 4) = False := eq_false c1
      rw [if_neg c1]
      by_cases c2 : K j = 12
      · have c2' : (K j = 12) = True := eq_true c2
        rw [if_pos c2]
        have h1 := sm (j + 1) C (by omega) (by omega)
        have p1 := pgs (j + 1)
        generalize j_sm K (j_one K V (j_nm q) r) (j + 1) = x at *
        by_cases z : x.1 = 0
        · have e2 := h1.1 z
          have p := p1 z
          rw [q_bd0 z]
          have e3 := ex x.2.1 (C ++ x.2.2) p.2.1 13 (by omega)
          unfold j_ex
          by_cases z2 : K x.2.1 = 13
          · rw [if_pos z2] at e3
            rw [if_pos z2]
            refine q_rs_t ?_
            rw [e_144m]
            simp -implicitDefEqProofs (disch := first | assumption | omega | rfl | (simp only [z_up_eq, z_up_app, ↓reduceIte, Nat.reduceEqDiff]; omega)) only [z_lit0, z_lit1, z_lit2, z_litl, iI_add, iI_sub, iI_mul, iI_neg, iI_and, iI_or, iI_xor, iI_shl, iI_shr, iI_ushr, iI_div, iI_b, iI_c, iI_i2l, lI_l2i, lI_add, lI_sub, lI_mul, lI_neg, lI_div, lI_or, lI_and, lI_shl, lI_shr, nI_iI, lg_lt0, lg_gt0, lg_eq0, i_ne0', l_ne0', iI_lt, iI_le, iI_eq, lI_lt, lI_le, lI_eq, zb_0, zb_fit, zb_fit0, zb_fit1, i_one_zero, i_w_in, z_tb0, z_tb1, z_tb2, z_tb3, z_tb4, z_tb5, z_tb6, z_tb7, z_tb8, z_tbl, z_tu0, z_tu1, z_tu2, z_i_62, z_i_63, z_i_86, z_i_88, z_l_Y, z_ui_62, z_ui_63, z_ui_86, z_ui_88, z_ul_Y, z_sz_Y, z_sw_Y, iI_nat, z_ix_t, z_at, Int.add_zero, Int.sub_zero, Int.zero_add, Int.mul_zero, ne_eq, Bool.false_eq_true, Bool.true_eq_false, reduceCtorEq, eq_self, and_true, true_and, and_false, false_and, and_self, not_true_eq_false, not_false_eq_true, decide_true, decide_false, ↓reduceIte, Int.reduceEq, Int.reduceNe, Int.reduceLT, Int.reduceLE, Int.reduceAdd, Int.reduceSub, Int.reduceMul, Int.reduceNeg, Nat.reduceAdd, Nat.reduceEqDiff, Nat.reduceBEq, ↓z_x_eq, z_g_t, z_bI_s, z_bL_s, z_bR_s, z_bV_s, Int.cast_ofNat_Int, beq_self_eq_true, Bool.and_true, Bool.true_and, Bool.and_self, Bool.or_true, Bool.true_or, Bool.false_and, Bool.and_false, Bool.false_or, Bool.or_false, Bool.not_false, Bool.not_true, if_true, if_false, ite_true, ite_false, z_up_eq, z_up_app, z_ro_eq, c8, q_G_k, nx, c1', c2']
            rw [q_an_1 e2, q_an_1 e3]
            rfl
          · rw [if_neg z2] at e3
            rw [if_neg z2]
            refine q_rs_f (C' := C ++ x.2.2) (by show (1 : Int) ≠ 0; decide) ?_
            rw [e_144m]
            simp -implicitDefEqProofs (disch := first | assumption | omega | rfl | (simp only [z_up_eq, z_up_app, ↓reduceIte, Nat.reduceEqDiff]; omega)) only [z_lit0, z_lit1, z_lit2, z_litl, iI_add, iI_sub, iI_mul, iI_neg, iI_and, iI_or, iI_xor, iI_shl, iI_shr, iI_ushr, iI_div, iI_b, iI_c, iI_i2l, lI_l2i, lI_add, lI_sub, lI_mul, lI_neg, lI_div, lI_or, lI_and, lI_shl, lI_shr, nI_iI, lg_lt0, lg_gt0, lg_eq0, i_ne0', l_ne0', iI_lt, iI_le, iI_eq, lI_lt, lI_le, lI_eq, zb_0, zb_fit, zb_fit0, zb_fit1, i_one_zero, i_w_in, z_tb0, z_tb1, z_tb2, z_tb3, z_tb4, z_tb5, z_tb6, z_tb7, z_tb8, z_tbl, z_tu0, z_tu1, z_tu2, z_i_62, z_i_63, z_i_86, z_i_88, z_l_Y, z_ui_62, z_ui_63, z_ui_86, z_ui_88, z_ul_Y, z_sz_Y, z_sw_Y, iI_nat, z_ix_t, z_at, Int.add_zero, Int.sub_zero, Int.zero_add, Int.mul_zero, ne_eq, Bool.false_eq_true, Bool.true_eq_false, reduceCtorEq, eq_self, and_true, true_and, and_false, false_and, and_self, not_true_eq_false, not_false_eq_true, decide_true, decide_false, ↓reduceIte, Int.reduceEq, Int.reduceNe, Int.reduceLT, Int.reduceLE, Int.reduceAdd, Int.reduceSub, Int.reduceMul, Int.reduceNeg, Nat.reduceAdd, Nat.reduceEqDiff, Nat.reduceBEq, ↓z_x_eq, z_g_t, z_bI_s, z_bL_s, z_bR_s, z_bV_s, Int.cast_ofNat_Int, beq_self_eq_true, Bool.and_true, Bool.true_and, Bool.and_self, Bool.or_true, Bool.true_or, Bool.false_and, Bool.and_false, Bool.false_or, Bool.or_false, Bool.not_false, Bool.not_true, if_true, if_false, ite_true, ite_false, z_up_eq, z_up_app, z_ro_eq, c8, q_G_k, nx, c1', c2']
            rw [q_an_1 e2, q_an_0 e3]
        · obtain ⟨C', e2⟩ := h1.2 z
          rw [q_bd1 z]
          refine q_rs_f (C' := C') z ?_
          rw [e_144m]
          simp -implicitDefEqProofs (disch := first | assumption | omega | rfl | (simp only [z_up_eq, z_up_app, ↓reduceIte, Nat.reduceEqDiff]; omega)) only [z_lit0, z_lit1, z_lit2, z_litl, iI_add, iI_sub, iI_mul, iI_neg, iI_and, iI_or, iI_xor, iI_shl, iI_shr, iI_ushr, iI_div, iI_b, iI_c, iI_i2l, lI_l2i, lI_add, lI_sub, lI_mul, lI_neg, lI_div, lI_or, lI_and, lI_shl, lI_shr, nI_iI, lg_lt0, lg_gt0, lg_eq0, i_ne0', l_ne0', iI_lt, iI_le, iI_eq, lI_lt, lI_le, lI_eq, zb_0, zb_fit, zb_fit0, zb_fit1, i_one_zero, i_w_in, z_tb0, z_tb1, z_tb2, z_tb3, z_tb4, z_tb5, z_tb6, z_tb7, z_tb8, z_tbl, z_tu0, z_tu1, z_tu2, z_i_62, z_i_63, z_i_86, z_i_88, z_l_Y, z_ui_62, z_ui_63, z_ui_86, z_ui_88, z_ul_Y, z_sz_Y, z_sw_Y, iI_nat, z_ix_t, z_at, Int.add_zero, Int.sub_zero, Int.zero_add, Int.mul_zero, ne_eq, Bool.false_eq_true, Bool.true_eq_false, reduceCtorEq, eq_self, and_true, true_and, and_false, false_and, and_self, not_true_eq_false, not_false_eq_true, decide_true, decide_false, ↓reduceIte, Int.reduceEq, Int.reduceNe, Int.reduceLT, Int.reduceLE, Int.reduceAdd, Int.reduceSub, Int.reduceMul, Int.reduceNeg, Nat.reduceAdd, Nat.reduceEqDiff, Nat.reduceBEq, ↓z_x_eq, z_g_t, z_bI_s, z_bL_s, z_bR_s, z_bV_s, Int.cast_ofNat_Int, beq_self_eq_true, Bool.and_true, Bool.true_and, Bool.and_self, Bool.or_true, Bool.true_or, Bool.false_and, Bool.and_false, Bool.false_or, Bool.or_false, Bool.not_false, Bool.not_true, if_true, if_false, ite_true, ite_false, z_up_eq, z_up_app, z_ro_eq, c8, q_G_k, nx, c1', c2']
          rw [q_an_0 e2]
      · have c2' : (K j = 12) = False := eq_false c2
        rw [if_neg c2]
        have e1 := ex (j + 1) C (by omega) 12 (by omega)
        unfold j_ex
        by_cases z1 : K (j + 1) = 12
        · rw [if_pos z1] at e1
          rw [if_pos z1]
          have jl2 := q_lt hT (show K (j + 1) ≠ 0 by omega)
          have h1 := sm (j + 1 + 1) C (by omega) (by omega)
          have p1 := pgs (j + 1 + 1)
          rw [show j + 2 = j + 1 + 1 from rfl]
          generalize j_sm K (j_one K V (j_nm q) r) (j + 1 + 1) = x at *
          by_cases z : x.1 = 0
          · have e2 := h1.1 z
            have p := p1 z
            rw [q_bd0 z]
            have e3 := ex x.2.1 (C ++ x.2.2) p.2.1 14 (by omega)
            by_cases z2 : K x.2.1 = 14
            · rw [if_pos z2] at e3
              rw [if_pos z2]
              have jl3 := q_lt hT (show K x.2.1 ≠ 0 by omega)
              have h2 := sm (x.2.1 + 1) (C ++ x.2.2) (by omega) (by rw [List.length_append]; omega)
              have p2 := pgs (x.2.1 + 1)
              generalize j_sm K (j_one K V (j_nm q) r) (x.2.1 + 1) = y at *
              by_cases z3 : y.1 = 0
              · have e4 := h2.1 z3
                have p3 := p2 z3
                rw [q_bd0 z3]
                have e5 := ex y.2.1 (C ++ x.2.2 ++ y.2.2) p3.2.1 14 (by omega)
                by_cases z4 : K y.2.1 = 14
                · rw [if_pos z4] at e5
                  rw [if_pos z4]
                  have jl4 := q_lt hT (show K y.2.1 ≠ 0 by omega)
                  have h3 := sm (y.2.1 + 1) (C ++ x.2.2 ++ y.2.2) (by omega) (by rw [List.length_append, List.length_append]; omega)
                  have p4 := pgs (y.2.1 + 1)
                  generalize j_sm K (j_one K V (j_nm q) r) (y.2.1 + 1) = u at *
                  by_cases z5 : u.1 = 0
                  · have e6 := h3.1 z5
                    have p5 := p4 z5
                    rw [q_bd0 z5]
                    have e7 := ex u.2.1 (C ++ x.2.2 ++ y.2.2 ++ u.2.2) p5.2.1 13 (by omega)
                    by_cases z6 : K u.2.1 = 13
                    · rw [if_pos z6] at e7
                      rw [if_pos z6]
                      have em := p_remit (T := T) (s := s) (G := G) (K := K) (V := V) (j := u.2.1 + 1) (E := d + 3) (by omega) (C := C ++ x.2.2 ++ y.2.2 ++ u.2.2) (by rw [List.length_append, List.length_append, List.length_append]; omega) 2 0
                      rw [show t_enc 2 0 = 44 from rfl, show C ++ x.2.2 ++ y.2.2 ++ u.2.2 ++ [((2 : Int), (0 : Int))] = C ++ (x.2.2 ++ y.2.2 ++ u.2.2 ++ [((2 : Int), (0 : Int))]) by simp only [List.append_assoc]] at em
                      refine q_rs_t ?_
                      rw [e_144m]
                      simp -implicitDefEqProofs (disch := first | assumption | omega | rfl | (simp only [z_up_eq, z_up_app, ↓reduceIte, Nat.reduceEqDiff]; omega)) only [z_lit0, z_lit1, z_lit2, z_litl, iI_add, iI_sub, iI_mul, iI_neg, iI_and, iI_or, iI_xor, iI_shl, iI_shr, iI_ushr, iI_div, iI_b, iI_c, iI_i2l, lI_l2i, lI_add, lI_sub, lI_mul, lI_neg, lI_div, lI_or, lI_and, lI_shl, lI_shr, nI_iI, lg_lt0, lg_gt0, lg_eq0, i_ne0', l_ne0', iI_lt, iI_le, iI_eq, lI_lt, lI_le, lI_eq, zb_0, zb_fit, zb_fit0, zb_fit1, i_one_zero, i_w_in, z_tb0, z_tb1, z_tb2, z_tb3, z_tb4, z_tb5, z_tb6, z_tb7, z_tb8, z_tbl, z_tu0, z_tu1, z_tu2, z_i_62, z_i_63, z_i_86, z_i_88, z_l_Y, z_ui_62, z_ui_63, z_ui_86, z_ui_88, z_ul_Y, z_sz_Y, z_sw_Y, iI_nat, z_ix_t, z_at, Int.add_zero, Int.sub_zero, Int.zero_add, Int.mul_zero, ne_eq, Bool.false_eq_true, Bool.true_eq_false, reduceCtorEq, eq_self, and_true, true_and, and_false, false_and, and_self, not_true_eq_false, not_false_eq_true, decide_true, decide_false, ↓reduceIte, Int.reduceEq, Int.reduceNe, Int.reduceLT, Int.reduceLE, Int.reduceAdd, Int.reduceSub, Int.reduceMul, Int.reduceNeg, Nat.reduceAdd, Nat.reduceEqDiff, Nat.reduceBEq, ↓z_x_eq, z_g_t, z_bI_s, z_bL_s, z_bR_s, z_bV_s, Int.cast_ofNat_Int, beq_self_eq_true, Bool.and_true, Bool.true_and, Bool.and_self, Bool.or_true, Bool.true_or, Bool.false_and, Bool.and_false, Bool.false_or, Bool.or_false, Bool.not_false, Bool.not_true, if_true, if_false, ite_true, ite_false, z_up_eq, z_up_app, z_ro_eq, c8, q_G_k, nx, c1', c2']
                      rw [q_an_1 e1, q_an_1 e2, q_an_1 e3, q_an_1 e4, q_an_1 e5, q_an_1 e6, q_an_1 e7, q_an_1 em]
                      rfl
                    · rw [if_neg z6] at e7
                      rw [if_neg z6]
                      refine q_rs_f (C' := C ++ x.2.2 ++ y.2.2 ++ u.2.2) (by show (1 : Int) ≠ 0; decide) ?_
                      rw [e_144m]
                      simp -implicitDefEqProofs (disch := first | assumption | omega | rfl | (simp only [z_up_eq, z_up_app, ↓reduceIte, Nat.reduceEqDiff]; omega)) only [z_lit0, z_lit1, z_lit2, z_litl, iI_add, iI_sub, iI_mul, iI_neg, iI_and, iI_or, iI_xor, iI_shl, iI_shr, iI_ushr, iI_div, iI_b, iI_c, iI_i2l, lI_l2i, lI_add, lI_sub, lI_mul, lI_neg, lI_div, lI_or, lI_and, lI_shl, lI_shr, nI_iI, lg_lt0, lg_gt0, lg_eq0, i_ne0', l_ne0', iI_lt, iI_le, iI_eq, lI_lt, lI_le, lI_eq, zb_0, zb_fit, zb_fit0, zb_fit1, i_one_zero, i_w_in, z_tb0, z_tb1, z_tb2, z_tb3, z_tb4, z_tb5, z_tb6, z_tb7, z_tb8, z_tbl, z_tu0, z_tu1, z_tu2, z_i_62, z_i_63, z_i_86, z_i_88, z_l_Y, z_ui_62, z_ui_63, z_ui_86, z_ui_88, z_ul_Y, z_sz_Y, z_sw_Y, iI_nat, z_ix_t, z_at, Int.add_zero, Int.sub_zero, Int.zero_add, Int.mul_zero, ne_eq, Bool.false_eq_true, Bool.true_eq_false, reduceCtorEq, eq_self, and_true, true_and, and_false, false_and, and_self, not_true_eq_false, not_false_eq_true, decide_true, decide_false, ↓reduceIte, Int.reduceEq, Int.reduceNe, Int.reduceLT, Int.reduceLE, Int.reduceAdd, Int.reduceSub, Int.reduceMul, Int.reduceNeg, Nat.reduceAdd, Nat.reduceEqDiff, Nat.reduceBEq, ↓z_x_eq, z_g_t, z_bI_s, z_bL_s, z_bR_s, z_bV_s, Int.cast_ofNat_Int, beq_self_eq_true, Bool.and_true, Bool.true_and, Bool.and_self, Bool.or_true, Bool.true_or, Bool.false_and, Bool.and_false, Bool.false_or, Bool.or_false, Bool.not_false, Bool.not_true, if_true, if_false, ite_true, ite_false, z_up_eq, z_up_app, z_ro_eq, c8, q_G_k, nx, c1', c2']
                      rw [q_an_1 e1, q_an_1 e2, q_an_1 e3, q_an_1 e4, q_an_1 e5, q_an_1 e6, q_an_0 e7]
                  · obtain ⟨C', e6⟩ := h3.2 z5
                    rw [q_bd1 z5]
                    refine q_rs_f (C' := C') z5 ?_
                    rw [e_144m]
                    simp -implicitDefEqProofs (disch := first | assumption | omega | rfl | (simp only [z_up_eq, z_up_app, ↓reduceIte, Nat.reduceEqDiff]; omega)) only [z_lit0, z_lit1, z_lit2, z_litl, iI_add, iI_sub, iI_mul, iI_neg, iI_and, iI_or, iI_xor, iI_shl, iI_shr, iI_ushr, iI_div, iI_b, iI_c, iI_i2l, lI_l2i, lI_add, lI_sub, lI_mul, lI_neg, lI_div, lI_or, lI_and, lI_shl, lI_shr, nI_iI, lg_lt0, lg_gt0, lg_eq0, i_ne0', l_ne0', iI_lt, iI_le, iI_eq, lI_lt, lI_le, lI_eq, zb_0, zb_fit, zb_fit0, zb_fit1, i_one_zero, i_w_in, z_tb0, z_tb1, z_tb2, z_tb3, z_tb4, z_tb5, z_tb6, z_tb7, z_tb8, z_tbl, z_tu0, z_tu1, z_tu2, z_i_62, z_i_63, z_i_86, z_i_88, z_l_Y, z_ui_62, z_ui_63, z_ui_86, z_ui_88, z_ul_Y, z_sz_Y, z_sw_Y, iI_nat, z_ix_t, z_at, Int.add_zero, Int.sub_zero, Int.zero_add, Int.mul_zero, ne_eq, Bool.false_eq_true, Bool.true_eq_false, reduceCtorEq, eq_self, and_true, true_and, and_false, false_and, and_self, not_true_eq_false, not_false_eq_true, decide_true, decide_false, ↓reduceIte, Int.reduceEq, Int.reduceNe, Int.reduceLT, Int.reduceLE, Int.reduceAdd, Int.reduceSub, Int.reduceMul, Int.reduceNeg, Nat.reduceAdd, Nat.reduceEqDiff, Nat.reduceBEq, ↓z_x_eq, z_g_t, z_bI_s, z_bL_s, z_bR_s, z_bV_s, Int.cast_ofNat_Int, beq_self_eq_true, Bool.and_true, Bool.true_and, Bool.and_self, Bool.or_true, Bool.true_or, Bool.false_and, Bool.and_false, Bool.false_or, Bool.or_false, Bool.not_false, Bool.not_true, if_true, if_false, ite_true, ite_false, z_up_eq, z_up_app, z_ro_eq, c8, q_G_k, nx, c1', c2']
                    rw [q_an_1 e1, q_an_1 e2, q_an_1 e3, q_an_1 e4, q_an_1 e5, q_an_0 e6]
                · rw [if_neg z4] at e5
                  rw [if_neg z4]
                  refine q_rs_f (C' := C ++ x.2.2 ++ y.2.2) (by show (1 : Int) ≠ 0; decide) ?_
                  rw [e_144m]
                  simp -implicitDefEqProofs (disch := first | assumption | omega | rfl | (simp only [z_up_eq, z_up_app, ↓reduceIte, Nat.reduceEqDiff]; omega)) only [z_lit0, z_lit1, z_lit2, z_litl, iI_add, iI_sub, iI_mul, iI_neg, iI_and, iI_or, iI_xor, iI_shl, iI_shr, iI_ushr, iI_div, iI_b, iI_c, iI_i2l, lI_l2i, lI_add, lI_sub, lI_mul, lI_neg, lI_div, lI_or, lI_and, lI_shl, lI_shr, nI_iI, lg_lt0, lg_gt0, lg_eq0, i_ne0', l_ne0', iI_lt, iI_le, iI_eq, lI_lt, lI_le, lI_eq, zb_0, zb_fit, zb_fit0, zb_fit1, i_one_zero, i_w_in, z_tb0, z_tb1, z_tb2, z_tb3, z_tb4, z_tb5, z_tb6, z_tb7, z_tb8, z_tbl, z_tu0, z_tu1, z_tu2, z_i_62, z_i_63, z_i_86, z_i_88, z_l_Y, z_ui_62, z_ui_63, z_ui_86, z_ui_88, z_ul_Y, z_sz_Y, z_sw_Y, iI_nat, z_ix_t, z_at, Int.add_zero, Int.sub_zero, Int.zero_add, Int.mul_zero, ne_eq, Bool.false_eq_true, Bool.true_eq_false, reduceCtorEq, eq_self, and_true, true_and, and_false, false_and, and_self, not_true_eq_false, not_false_eq_true, decide_true, decide_false, ↓reduceIte, Int.reduceEq, Int.reduceNe, Int.reduceLT, Int.reduceLE, Int.reduceAdd, Int.reduceSub, Int.reduceMul, Int.reduceNeg, Nat.reduceAdd, Nat.reduceEqDiff, Nat.reduceBEq, ↓z_x_eq, z_g_t, z_bI_s, z_bL_s, z_bR_s, z_bV_s, Int.cast_ofNat_Int, beq_self_eq_true, Bool.and_true, Bool.true_and, Bool.and_self, Bool.or_true, Bool.true_or, Bool.false_and, Bool.and_false, Bool.false_or, Bool.or_false, Bool.not_false, Bool.not_true, if_true, if_false, ite_true, ite_false, z_up_eq, z_up_app, z_ro_eq, c8, q_G_k, nx, c1', c2']
                  rw [q_an_1 e1, q_an_1 e2, q_an_1 e3, q_an_1 e4, q_an_0 e5]
              · obtain ⟨C', e4⟩ := h2.2 z3
                rw [q_bd1 z3]
                refine q_rs_f (C' := C') z3 ?_
                rw [e_144m]
                simp -implicitDefEqProofs (disch := first | assumption | omega | rfl | (simp only [z_up_eq, z_up_app, ↓reduceIte, Nat.reduceEqDiff]; omega)) only [z_lit0, z_lit1, z_lit2, z_litl, iI_add, iI_sub, iI_mul, iI_neg, iI_and, iI_or, iI_xor, iI_shl, iI_shr, iI_ushr, iI_div, iI_b, iI_c, iI_i2l, lI_l2i, lI_add, lI_sub, lI_mul, lI_neg, lI_div, lI_or, lI_and, lI_shl, lI_shr, nI_iI, lg_lt0, lg_gt0, lg_eq0, i_ne0', l_ne0', iI_lt, iI_le, iI_eq, lI_lt, lI_le, lI_eq, zb_0, zb_fit, zb_fit0, zb_fit1, i_one_zero, i_w_in, z_tb0, z_tb1, z_tb2, z_tb3, z_tb4, z_tb5, z_tb6, z_tb7, z_tb8, z_tbl, z_tu0, z_tu1, z_tu2, z_i_62, z_i_63, z_i_86, z_i_88, z_l_Y, z_ui_62, z_ui_63, z_ui_86, z_ui_88, z_ul_Y, z_sz_Y, z_sw_Y, iI_nat, z_ix_t, z_at, Int.add_zero, Int.sub_zero, Int.zero_add, Int.mul_zero, ne_eq, Bool.false_eq_true, Bool.true_eq_false, reduceCtorEq, eq_self, and_true, true_and, and_false, false_and, and_self, not_true_eq_false, not_false_eq_true, decide_true, decide_false, ↓reduceIte, Int.reduceEq, Int.reduceNe, Int.reduceLT, Int.reduceLE, Int.reduceAdd, Int.reduceSub, Int.reduceMul, Int.reduceNeg, Nat.reduceAdd, Nat.reduceEqDiff, Nat.reduceBEq, ↓z_x_eq, z_g_t, z_bI_s, z_bL_s, z_bR_s, z_bV_s, Int.cast_ofNat_Int, beq_self_eq_true, Bool.and_true, Bool.true_and, Bool.and_self, Bool.or_true, Bool.true_or, Bool.false_and, Bool.and_false, Bool.false_or, Bool.or_false, Bool.not_false, Bool.not_true, if_true, if_false, ite_true, ite_false, z_up_eq, z_up_app, z_ro_eq, c8, q_G_k, nx, c1', c2']
                rw [q_an_1 e1, q_an_1 e2, q_an_1 e3, q_an_0 e4]
            · rw [if_neg z2] at e3
              rw [if_neg z2]
              refine q_rs_f (C' := C ++ x.2.2) (by show (1 : Int) ≠ 0; decide) ?_
              rw [e_144m]
              simp -implicitDefEqProofs (disch := first | assumption | omega | rfl | (simp only [z_up_eq, z_up_app, ↓reduceIte, Nat.reduceEqDiff]; omega)) only [z_lit0, z_lit1, z_lit2, z_litl, iI_add, iI_sub, iI_mul, iI_neg, iI_and, iI_or, iI_xor, iI_shl, iI_shr, iI_ushr, iI_div, iI_b, iI_c, iI_i2l, lI_l2i, lI_add, lI_sub, lI_mul, lI_neg, lI_div, lI_or, lI_and, lI_shl, lI_shr, nI_iI, lg_lt0, lg_gt0, lg_eq0, i_ne0', l_ne0', iI_lt, iI_le, iI_eq, lI_lt, lI_le, lI_eq, zb_0, zb_fit, zb_fit0, zb_fit1, i_one_zero, i_w_in, z_tb0, z_tb1, z_tb2, z_tb3, z_tb4, z_tb5, z_tb6, z_tb7, z_tb8, z_tbl, z_tu0, z_tu1, z_tu2, z_i_62, z_i_63, z_i_86, z_i_88, z_l_Y, z_ui_62, z_ui_63, z_ui_86, z_ui_88, z_ul_Y, z_sz_Y, z_sw_Y, iI_nat, z_ix_t, z_at, Int.add_zero, Int.sub_zero, Int.zero_add, Int.mul_zero, ne_eq, Bool.false_eq_true, Bool.true_eq_false, reduceCtorEq, eq_self, and_true, true_and, and_false, false_and, and_self, not_true_eq_false, not_false_eq_true, decide_true, decide_false, ↓reduceIte, Int.reduceEq, Int.reduceNe, Int.reduceLT, Int.reduceLE, Int.reduceAdd, Int.reduceSub, Int.reduceMul, Int.reduceNeg, Nat.reduceAdd, Nat.reduceEqDiff, Nat.reduceBEq, ↓z_x_eq, z_g_t, z_bI_s, z_bL_s, z_bR_s, z_bV_s, Int.cast_ofNat_Int, beq_self_eq_true, Bool.and_true, Bool.true_and, Bool.and_self, Bool.or_true, Bool.true_or, Bool.false_and, Bool.and_false, Bool.false_or, Bool.or_false, Bool.not_false, Bool.not_true, if_true, if_false, ite_true, ite_false, z_up_eq, z_up_app, z_ro_eq, c8, q_G_k, nx, c1', c2']
              rw [q_an_1 e1, q_an_1 e2, q_an_0 e3]
          · obtain ⟨C', e2⟩ := h1.2 z
            rw [q_bd1 z]
            refine q_rs_f (C' := C') z ?_
            rw [e_144m]
            simp -implicitDefEqProofs (disch := first | assumption | omega | rfl | (simp only [z_up_eq, z_up_app, ↓reduceIte, Nat.reduceEqDiff]; omega)) only [z_lit0, z_lit1, z_lit2, z_litl, iI_add, iI_sub, iI_mul, iI_neg, iI_and, iI_or, iI_xor, iI_shl, iI_shr, iI_ushr, iI_div, iI_b, iI_c, iI_i2l, lI_l2i, lI_add, lI_sub, lI_mul, lI_neg, lI_div, lI_or, lI_and, lI_shl, lI_shr, nI_iI, lg_lt0, lg_gt0, lg_eq0, i_ne0', l_ne0', iI_lt, iI_le, iI_eq, lI_lt, lI_le, lI_eq, zb_0, zb_fit, zb_fit0, zb_fit1, i_one_zero, i_w_in, z_tb0, z_tb1, z_tb2, z_tb3, z_tb4, z_tb5, z_tb6, z_tb7, z_tb8, z_tbl, z_tu0, z_tu1, z_tu2, z_i_62, z_i_63, z_i_86, z_i_88, z_l_Y, z_ui_62, z_ui_63, z_ui_86, z_ui_88, z_ul_Y, z_sz_Y, z_sw_Y, iI_nat, z_ix_t, z_at, Int.add_zero, Int.sub_zero, Int.zero_add, Int.mul_zero, ne_eq, Bool.false_eq_true, Bool.true_eq_false, reduceCtorEq, eq_self, and_true, true_and, and_false, false_and, and_self, not_true_eq_false, not_false_eq_true, decide_true, decide_false, ↓reduceIte, Int.reduceEq, Int.reduceNe, Int.reduceLT, Int.reduceLE, Int.reduceAdd, Int.reduceSub, Int.reduceMul, Int.reduceNeg, Nat.reduceAdd, Nat.reduceEqDiff, Nat.reduceBEq, ↓z_x_eq, z_g_t, z_bI_s, z_bL_s, z_bR_s, z_bV_s, Int.cast_ofNat_Int, beq_self_eq_true, Bool.and_true, Bool.true_and, Bool.and_self, Bool.or_true, Bool.true_or, Bool.false_and, Bool.and_false, Bool.false_or, Bool.or_false, Bool.not_false, Bool.not_true, if_true, if_false, ite_true, ite_false, z_up_eq, z_up_app, z_ro_eq, c8, q_G_k, nx, c1', c2']
            rw [q_an_1 e1, q_an_0 e2]
        · rw [if_neg z1] at e1
          rw [if_neg z1]
          refine q_rs_f (C' := C) (by show (1 : Int) ≠ 0; decide) ?_
          rw [e_144m]
          simp -implicitDefEqProofs (disch := first | assumption | omega | rfl | (simp only [z_up_eq, z_up_app, ↓reduceIte, Nat.reduceEqDiff]; omega)) only [z_lit0, z_lit1, z_lit2, z_litl, iI_add, iI_sub, iI_mul, iI_neg, iI_and, iI_or, iI_xor, iI_shl, iI_shr, iI_ushr, iI_div, iI_b, iI_c, iI_i2l, lI_l2i, lI_add, lI_sub, lI_mul, lI_neg, lI_div, lI_or, lI_and, lI_shl, lI_shr, nI_iI, lg_lt0, lg_gt0, lg_eq0, i_ne0', l_ne0', iI_lt, iI_le, iI_eq, lI_lt, lI_le, lI_eq, zb_0, zb_fit, zb_fit0, zb_fit1, i_one_zero, i_w_in, z_tb0, z_tb1, z_tb2, z_tb3, z_tb4, z_tb5, z_tb6, z_tb7, z_tb8, z_tbl, z_tu0, z_tu1, z_tu2, z_i_62, z_i_63, z_i_86, z_i_88, z_l_Y, z_ui_62, z_ui_63, z_ui_86, z_ui_88, z_ul_Y, z_sz_Y, z_sw_Y, iI_nat, z_ix_t, z_at, Int.add_zero, Int.sub_zero, Int.zero_add, Int.mul_zero, ne_eq, Bool.false_eq_true, Bool.true_eq_false, reduceCtorEq, eq_self, and_true, true_and, and_false, false_and, and_self, not_true_eq_false, not_false_eq_true, decide_true, decide_false, ↓reduceIte, Int.reduceEq, Int.reduceNe, Int.reduceLT, Int.reduceLE, Int.reduceAdd, Int.reduceSub, Int.reduceMul, Int.reduceNeg, Nat.reduceAdd, Nat.reduceEqDiff, Nat.reduceBEq, ↓z_x_eq, z_g_t, z_bI_s, z_bL_s, z_bR_s, z_bV_s, Int.cast_ofNat_Int, beq_self_eq_true, Bool.and_true, Bool.true_and, Bool.and_self, Bool.or_true, Bool.true_or, Bool.false_and, Bool.and_false, Bool.false_or, Bool.or_false, Bool.not_false, Bool.not_true, if_true, if_false, ite_true, ite_false, z_up_eq, z_up_app, z_ro_eq, c8, q_G_k, nx, c1', c2']
          rw [q_an_0 e1]
end

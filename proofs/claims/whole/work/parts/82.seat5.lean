/-! THE PURE PART, 62: seated, the pair of calls -/
theorem s_hc_ag {A X M M' P P' : Int → Int} {x y : Int} {n : Nat} {L : List Nat} (hm : o_ag n M M') (hp : o_ag n P P') (hL : o_okL n L = true) (m : Nat) : s_hc A X M P x y n m 0 L = s_hc A X M' P' x y n m 0 L := by
  unfold s_hc
  refine z_cnt_eq _ _ (fun no a b => ?_)
  congr 1
  unfold s_air
  congr 1
  refine z_sum_eq _ _ (fun i c e => ?_)
  have := o_okL_in hL i c (by omega)
  unfold s_tb
  rw [hm i c (by omega), hp _ this.1 this.2]
theorem s_bs_mem (H : List Nat → Int) : ∀ (R : List (List Nat)) (B : List Nat), s_bs H R B ∈ B :: R
  | [], B => List.mem_cons_self ..
  | L :: R, B => by
    unfold s_bs
    split
    · have := s_bs_mem H R L
      exact List.mem_cons_of_mem _ this
    · have := s_bs_mem H R B
      rcases List.mem_cons.mp this with e | m
      · rw [e]; exact List.mem_cons_self ..
      · exact List.mem_cons_of_mem _ (List.mem_cons_of_mem _ m)
theorem s_bs_cg {H H' : List Nat → Int} : ∀ (R : List (List Nat)) (B : List Nat), (∀ L, L ∈ B :: R → H L = H' L) → s_bs H R B = s_bs H' R B
  | [], _, _ => rfl
  | L :: R, B, h => by
    unfold s_bs
    rw [h B (List.mem_cons_self ..), h L (List.mem_cons_of_mem _ (List.mem_cons_self ..))]
    split
    · exact s_bs_cg R L (fun L' m => h L' (List.mem_cons_of_mem _ m))
    · exact s_bs_cg R B (fun L' m => h L' (by
        rcases List.mem_cons.mp m with e | m
        · rw [e]; exact List.mem_cons_self ..
        · exact List.mem_cons_of_mem _ (List.mem_cons_of_mem _ m)))
/-- the class's world behind a game -/
def g_c (G : ZG) (c : Int) (G1 : ZG) : Prop := (∀ r, r ≠ 61 → r ≠ 64 → ¬ (71 ≤ r ∧ r ≤ 79) → G1 r = G r) ∧ z_ask G1 (c + 1)
theorem I_g {S0 : ZG} {c : Int} {T : ZT} {G G1 G2 : ZG} (h : z_I S0 c T G) (hc : c < 600) (hg : g_c G c G1) (h2 : ∀ r, r ≠ 80 → r ≠ 81 → ¬ (89 ≤ r ∧ r ≤ 97) → G2 r = G1 r) (h81 : G2 81 = G 81) (h80 : ∀ k, k = 4 ∨ k = 5 ∨ k = 6 ∨ k = 24 ∨ k = 25 → G2 80 k = G 80 k) : z_I S0 (c + 1) T G2 := by
  have ne : ∀ r, r ≠ 61 → r ≠ 64 → ¬ (71 ≤ r ∧ r ≤ 79) → r ≠ 80 → ¬ (89 ≤ r ∧ r ≤ 97) → G2 r = G r := fun r a b e f g => by
    by_cases q : r = 81
    · rw [q]; exact h81
    · rw [h2 r f q g, hg.1 r a b e]
  refine I_q h hc (fun r a => ne r (by omega) (by omega) (by omega) (by omega) (by omega)) ⟨h80 4 (by omega), h80 5 (by omega), h80 6 (by omega), ?_, ?_⟩ ?_
  · rw [h80 24 (by omega)]; exact I_hic h
  · rw [h80 25 (by omega)]; exact h.2.2.2.2.2.2.1.2
  · unfold z_ask
    rw [h2 61 (by omega) (by omega) (by omega), h2 64 (by omega) (by omega) (by omega)]; exact hg.2
theorem p_cbest (d : Nat) (T : ZT) (G : ZG) (s : ZG × ZG) {n : Nat} {x y p ix : Int} {L : List Nat} {R : List (List Nat)} (hQ : c_q T G) (hn : 1 ≤ n ∧ n ≤ 5) (hM : ∀ i : Int, 0 ≤ i → i < n → 0 ≤ G 71 i ∧ G 71 i < G 81 1) (hP : ∀ j : Int, 0 ≤ j → j < n → 0 ≤ G 72 j ∧ G 72 j < G 81 0) (hk : 0 ≤ G 61 5 ∧ G 61 5 ≤ 7188) (hv : ∀ i, 0 ≤ i → i < 181 → 0 ≤ G 64 i ∧ G 64 i ≤ 2 * G 61 5 + 1) (hchk : o_chk n (L :: R) = true) (hlen : (R.length : Int) < 120) (hid : ∀ i : Int, 0 ≤ i → i < n → o_e L i = i) : ∃ (b : Nat) (G2 : ZG) (s2 : ZG × ZG), z_bV (z_call (d + 6) 4 [vr 75, vi (iI 0)] (z_Y T G s)) (fun σ => z_w d_Ga_bestSeats (z_call (d + 6)) 104 [some (vr 70), some (vi (iI x)), some (vi (iI y)), some (vi (iI p)), some (vi (iI n)), some (vi (iI ix)), some (vi (iI 0)), none] [] σ) = z_w d_Ga_bestSeats (z_call (d + 6)) 138 [some (vr 70), none, none, some (vi (iI p)), some (vi (iI n)), some (vi (iI ix)), some (vi (iI b)), some (vi (iI 120))] [] (z_Y T G2 s2) ∧ b < 120 ∧ (L :: R)[b]? = some (s_bs (s_hc (G 81) (G 83) (G 71) (G 72) x y n (G 81 2).toNat 0) R L) ∧ G2 75 b = s_hc (G 81) (G 83) (G 71) (G 72) x y n (G 81 2).toNat 0 (s_bs (s_hc (G 81) (G 83) (G 71) (G 72) x y n (G 81 2).toNat 0) R L) ∧ g_w G G2 (G 81 2) := by
  have m2 := hQ.1.1.2.2.1
  obtain ⟨W, ef, kf⟩ := p_fill (d + 5) T G s (r := 75) (L := 120) (v := 0) (fun _ _ => rfl) (fun _ _ => rfl) (by omega) (by omega) rfl
  have hw0 : g_w G (z_up G 75 W) ((0 : Nat) : Int) := ⟨fun r a b c e f => z_up_ne _ _ f, by rw [z_up_ne _ _ (by omega)]; exact hk.1, by rw [z_up_ne _ _ (by omega)]; omega, by rw [z_up_ne _ _ (by omega), z_up_ne _ _ (by omega)]; exact hv⟩
  have hl : ((L :: R).length : Int) = R.length + 1 := by simp
  have hl2 : (L :: R).length ≤ 120 := by omega
  have h0 : s_hv (z_up G 75 W 75) (s_hc (G 81) (G 83) (G 71) (G 72) x y n 0 0) (L :: R) 0 := by
    rw [z_up_eq]
    exact s_hv_0 (L :: R) 0 (by omega) (by omega) (fun j a b => kf j a b)
  obtain ⟨G2, s2, e2, w2, v2⟩ := p_bs_104 d T G (x := x) (y := y) (p := p) (ix := ix) hQ hn hM hP hk.2 hchk hlen hid (G 81 2).toNat 0 (z_up G 75 W) s (by omega) hw0 h0
  have hHin : ∀ L', 0 ≤ s_hc (G 81) (G 83) (G 71) (G 72) x y n (G 81 2).toNat 0 L' ∧ s_hc (G 81) (G 83) (G 71) (G 72) x y n (G 81 2).toNat 0 L' ≤ 12 := fun L' => by
    have := z_cnt_in (fun no => m_holds (G 81) (G 83) (G 81 6) no (s_air (G 81) (G 83) (G 71) (G 72) x y (G 81 (82 + 2 * no)) n (o_e L')) (G 81 (82 + 2 * no))) (G 81 2).toNat 0
    unfold s_hc
    omega
  obtain ⟨b, b1, b2, b3, b4⟩ := p_bs_138 (d + 6) T G2 s2 (n := n) (p := p) (ix := ix) hHin (L :: R) hl2 R 1 0 L rfl (by omega) (by omega) rfl v2.1 v2.2
  refine ⟨b, G2, s2, ?_, b3, b1, b2, w2⟩
  rw [ef]
  show z_w _ _ 104 _ _ _ = _
  rw [← b4]
  exact e2
theorem p_mbest (d : Nat) (T : ZT) (G : ZG) (s : ZG × ZG) {W0 : Int → Int} {n : Nat} {x y p : Int} {L : List Nat} {R : List (List Nat)} (hQ : m_q G) (hic : G 80 24 = -1) (hn : 1 ≤ n ∧ n ≤ 5) (hnx : (n : Int) = z_cnt 10 0 (i_has x)) (hx : 0 ≤ x ∧ x < i_shl 1 (G 81 1)) (h31 : G 80 31 = n) (h89 : G 89 = (s_lay x 10 0 0 W0).2) (hP : ∀ j : Int, 0 ≤ j → j < n → 0 ≤ G 90 j ∧ G 90 j < G 81 0) (hchk : o_chk n (L :: R) = true) (hid : ∀ i : Int, 0 ≤ i → i < n → o_e L i = i) (hy : i_in y) : ∃ (G2 : ZG) (s2 : ZG × ZG), z_w d_M_seated (z_call (d + 9)) 86 [some (vr 80), none, some (vi (iI y)), some (vi (iI p)), some (vi (iI 0)), none] [] (z_Y T G s) = (if iI p = iI (-1) then some (vi (iI (s_hc (G 81) (G 83) (s_lay x 10 0 0 W0).2 (G 90) x y n (G 81 2).toNat 0 (s_bs (s_hc (G 81) (G 83) (s_lay x 10 0 0 W0).2 (G 90) x y n (G 81 2).toNat 0) R L))), z_Y T G2 s2) else z_w d_M_seated (z_call (d + 9)) 128 [some (vr 80), none, none, some (vi (iI p)), none, some (vi (iI 0))] [] (z_Y T G2 s2)) ∧ (∀ r, r ≠ 81 → r ≠ 91 → r ≠ 92 → r ≠ 93 → G2 r = G r) ∧ G2 81 = G 81 ∧ ∀ j : Int, 0 ≤ j → j < n → G2 92 j = G 90 (o_e (s_bs (s_hc (G 81) (G 83) (s_lay x 10 0 0 W0).2 (G 90) x y n (G 81 2).toNat 0) R L) j) := by
  have hM := hQ.1
  have m1 := hM.2.1
  obtain ⟨O1, e86, k86⟩ := p_ms_86 (d + 9) T G s (y := y) (p := p) hn.2 h31 n 0 (G 91) (by omega) (by omega) (fun k a b => by omega)
  rw [z_up_id] at e86
  have e81 : z_up G 91 O1 81 = G 81 := z_up_ne _ _ (by omega)
  obtain ⟨R1, S1, e4, f4, k4⟩ := p_mb_4 (d + 7) T (z_up G 91 O1) s (A := G 81) (y := y) hM (G 81 1).toNat 0 (G 81) (z_up G 91 O1 93) (by omega) (by omega) (fun _ _ => rfl) (fun q a b => by omega) (fun q a b => rfl)
  have est : z_up (z_up (z_up G 91 O1) 81 (G 81)) 93 (z_up G 91 O1 93) = z_up G 91 O1 := by
    rw [z_up_self (show G 81 = z_up G 91 O1 81 from e81.symm)]
    exact z_up_id _ _
  rw [est] at e4
  -- the base of the model's loop: the row 93 is kept there
  have nb : ∀ r, r ≠ 81 → r ≠ 91 → r ≠ 92 → r ≠ 93 → z_up (z_up (z_up G 91 O1) 81 R1) 93 S1 r = G r := fun r a b c e => by rw [z_up_ne _ _ e, z_up_ne _ _ a, z_up_ne _ _ b]
  have b93 : z_up (z_up (z_up G 91 O1) 81 R1) 93 S1 93 = S1 := z_up_eq _ _ _
  have b81 : z_up (z_up (z_up G 91 O1) 81 R1) 93 S1 81 = R1 := by rw [z_up_ne _ _ (by omega), z_up_eq]
  have b91 : z_up (z_up (z_up G 91 O1) 81 R1) 93 S1 91 = O1 := by rw [z_up_ne _ _ (by omega), z_up_ne _ _ (by omega), z_up_eq]
  generalize z_up (z_up (z_up G 91 O1) 81 R1) 93 S1 = Gb at *
  have b80 := nb 80 (by omega) (by omega) (by omega) (by omega)
  have b83 := nb 83 (by omega) (by omega) (by omega) (by omega)
  have b90 := nb 90 (by omega) (by omega) (by omega) (by omega)
  have hq2 : m_q (z_up Gb 81 (G 81)) := by
    unfold m_q
    rw [z_up_eq, z_up_ne _ _ (show 83 ≠ 81 by omega), z_up_ne _ _ (show 80 ≠ 81 by omega), b80, b83]
    exact hQ
  obtain ⟨G2, s2, e64, r1, r2, r3⟩ := p_mb_64 d T Gb (A := G 81) (W0 := W0) (P := G 90) (x := x) (y := y) (n := n) hq2 (by rw [b80]; exact hic) hn hnx hx (by rw [b80]; exact h31) ((nb 89 (by omega) (by omega) (by omega) (by omega)).trans h89) b90 hP (by rw [b93]; exact fun q a b => (k4 q a b).2) R L (-1) [] Gb s hchk (fun _ _ _ _ => rfl) (by rw [b81]; exact f4) (by rw [b81]; exact fun p a b _ => (k4 p a b).1) (by rw [b91]; exact fun i a b => (k86 i a b).trans (hid i a b).symm) (by omega) (Or.inl rfl)
  rw [b83] at e64 r3
  have hHin : 0 ≤ s_hc (G 81) (G 83) (s_lay x 10 0 0 W0).2 (G 90) x y n (G 81 2).toNat 0 L := (z_cnt_in _ _ _).1
  have eb : s_b2 (s_hc (G 81) (G 83) (s_lay x 10 0 0 W0).2 (G 90) x y n (G 81 2).toNat 0) (L :: R) (-1) [] = (s_hc (G 81) (G 83) (s_lay x 10 0 0 W0).2 (G 90) x y n (G 81 2).toNat 0 (s_bs (s_hc (G 81) (G 83) (s_lay x 10 0 0 W0).2 (G 90) x y n (G 81 2).toNat 0) R L), s_bs (s_hc (G 81) (G 83) (s_lay x 10 0 0 W0).2 (G 90) x y n (G 81 2).toNat 0) R L) := by
    rw [← s_b2_bs]
    exact if_pos (by omega)
  rw [eb] at e64 r3
  have hH2 : 0 ≤ s_hc (G 81) (G 83) (s_lay x 10 0 0 W0).2 (G 90) x y n (G 81 2).toNat 0 (s_bs (s_hc (G 81) (G 83) (s_lay x 10 0 0 W0).2 (G 90) x y n (G 81 2).toNat 0) R L) := (z_cnt_in _ _ _).1
  refine ⟨G2, s2, ?_, fun r a b c e => (r1 r a b c).trans (nb r a b c e), r2, ?_⟩
  · have e252 : z_call (d + 9) 252 [vr 80, vi (iI y)] (z_Y T (z_up G 91 O1) s) = some (vi (iI (s_hc (G 81) (G 83) (s_lay x 10 0 0 W0).2 (G 90) x y n (G 81 2).toNat 0 (s_bs (s_hc (G 81) (G 83) (s_lay x 10 0 0 W0).2 (G 90) x y n (G 81 2).toNat 0) R L))), z_Y T G2 s2) := by
      rw [e_M_bestSeats]
      simp -implicitDefEqProofs (disch := first | assumption | omega | rfl | (simp only [z_up_eq, z_up_app, ↓reduceIte, Nat.reduceEqDiff]; omega)) only [z_lit0, z_lit1, z_lit2, z_litl, iI_add, iI_sub, iI_mul, iI_neg, iI_and, iI_or, iI_xor, iI_shl, iI_shr, iI_ushr, iI_div, iI_b, iI_c, iI_i2l, lI_l2i, lI_add, lI_sub, lI_mul, lI_neg, lI_div, lI_or, lI_and, lI_shl, lI_shr, nI_iI, lg_lt0, lg_gt0, lg_eq0, i_ne0', l_ne0', iI_lt, iI_le, iI_eq, lI_lt, lI_le, lI_eq, zb_0, zb_fit, zb_fit0, zb_fit1, i_one_zero, i_w_in, z_tb0, z_tb1, z_tb2, z_tb3, z_tb4, z_tb5, z_tb6, z_tb7, z_tb8, z_tbl, z_tu0, z_tu1, z_tu2, z_i_62, z_i_63, z_i_86, z_i_88, z_l_Y, z_ui_62, z_ui_63, z_ui_86, z_ui_88, z_ul_Y, z_sz_Y, z_sw_Y, iI_nat, z_ix_t, z_at, Int.add_zero, Int.sub_zero, Int.zero_add, Int.mul_zero, ne_eq, Bool.false_eq_true, Bool.true_eq_false, reduceCtorEq, eq_self, and_true, true_and, and_false, false_and, and_self, not_true_eq_false, not_false_eq_true, decide_true, decide_false, ↓reduceIte, Int.reduceEq, Int.reduceNe, Int.reduceLT, Int.reduceLE, Int.reduceAdd, Int.reduceSub, Int.reduceMul, Int.reduceNeg, Nat.reduceAdd, Nat.reduceEqDiff, Nat.reduceBEq, ↓z_x_eq, z_g_t, z_bI_s, z_bL_s, z_bR_s, z_bV_s, Int.cast_ofNat_Int, beq_self_eq_true, Bool.and_true, Bool.true_and, Bool.and_self, Bool.or_true, Bool.true_or, Bool.false_and, Bool.and_false, Bool.false_or, Bool.or_false, Bool.not_false, Bool.not_true, if_true, if_false, ite_true, ite_false, z_up_eq, z_up_app, z_ro_eq, e4, e64]
    rw [e86, e252]
    rfl
  · rcases r3 with q | q
    · dsimp only at q; omega
    · exact q
theorem t_seated (d : Nat) {S0 : ZG} {c : Int} {T : ZT} {G : ZG} (h : z_I S0 c T G) (hc : c < 600) {x y p : Int} (hx : i_in x) (hy : i_in y) (hp : i_in p) : z_pwr S0 c T G (fun σ => z_call (d + 8) 246 [vr 10, vi (iI x), vi (iI y), vi (iI p)] σ) (fun σ => z_call (d + 11) 253 [vr 80, vi (iI x), vi (iI y), vi (iI p)] σ) := by
  have hC := h.1
  have hQ := I_cq h
  have hQm := I_mq h
  have hic := I_hic h
  have hask := h.2.2.2.2.2.2.2.2.2.1
  have h0c := h.2.2.2.2.2.2.2.2.2.2.2.2.1
  have q1 := (dw_h hC).2.1
  have q0 := (dw_h hC).1
  have m1 := hC.1.2.1
  have m0 := hC.1.1
  have m2 := hC.1.2.2.1
  have sm1 := fun (G : ZG) s => p_small (d + 4) T G s (x := x) (N := G 81 1) hx
  have smx := fun s => p_small (d + 4) T G s (x := x) (N := G 81 1) hx m1
  have smy := fun s => p_small (d + 4) T G s (x := y) (N := G 81 0) hy m0
  have isx := fun s => p_isSome (d + 8) T G s (x := x) hx m1
  have hsx := i_shl10 m1
  have hsy := i_shl10 m0
  have bxi := i_bits_in x
  have byi := i_bits_in y
  cases c1 : s_small x (G 81 1)
  · rw [c1] at smx isx
    refine pr_same (vi (iI (-1))) h hc (fun s => ?_) (fun s => ?_)
    · rw [e_B_seated]
      simp -implicitDefEqProofs (disch := first | assumption | omega | rfl | (simp only [z_up_eq, z_up_app, ↓reduceIte, Nat.reduceEqDiff]; omega)) only [z_lit0, z_lit1, z_lit2, z_litl, iI_add, iI_sub, iI_mul, iI_neg, iI_and, iI_or, iI_xor, iI_shl, iI_shr, iI_ushr, iI_div, iI_b, iI_c, iI_i2l, lI_l2i, lI_add, lI_sub, lI_mul, lI_neg, lI_div, lI_or, lI_and, lI_shl, lI_shr, nI_iI, lg_lt0, lg_gt0, lg_eq0, i_ne0', l_ne0', iI_lt, iI_le, iI_eq, lI_lt, lI_le, lI_eq, zb_0, zb_fit, zb_fit0, zb_fit1, i_one_zero, i_w_in, z_tb0, z_tb1, z_tb2, z_tb3, z_tb4, z_tb5, z_tb6, z_tb7, z_tb8, z_tbl, z_tu0, z_tu1, z_tu2, z_i_62, z_i_63, z_i_86, z_i_88, z_l_Y, z_ui_62, z_ui_63, z_ui_86, z_ui_88, z_ul_Y, z_sz_Y, z_sw_Y, iI_nat, z_ix_t, z_at, Int.add_zero, Int.sub_zero, Int.zero_add, Int.mul_zero, ne_eq, Bool.false_eq_true, Bool.true_eq_false, reduceCtorEq, eq_self, and_true, true_and, and_false, false_and, and_self, not_true_eq_false, not_false_eq_true, decide_true, decide_false, ↓reduceIte, Int.reduceEq, Int.reduceNe, Int.reduceLT, Int.reduceLE, Int.reduceAdd, Int.reduceSub, Int.reduceMul, Int.reduceNeg, Nat.reduceAdd, Nat.reduceEqDiff, Nat.reduceBEq, ↓z_x_eq, z_g_t, z_bI_s, z_bL_s, z_bR_s, z_bV_s, Int.cast_ofNat_Int, beq_self_eq_true, Bool.and_true, Bool.true_and, Bool.and_self, Bool.or_true, Bool.true_or, Bool.false_and, Bool.and_false, Bool.false_or, Bool.or_false, Bool.not_false, Bool.not_true, if_true, if_false, ite_true, ite_false, z_up_eq, z_up_app, z_ro_eq, e_Ga_bestSeats, q1, smx, zb_f]
      exact ok_q
    · rw [e_M_seated]
      simp -implicitDefEqProofs (disch := first | assumption | omega | rfl | (simp only [z_up_eq, z_up_app, ↓reduceIte, Nat.reduceEqDiff]; omega)) only [z_lit0, z_lit1, z_lit2, z_litl, iI_add, iI_sub, iI_mul, iI_neg, iI_and, iI_or, iI_xor, iI_shl, iI_shr, iI_ushr, iI_div, iI_b, iI_c, iI_i2l, lI_l2i, lI_add, lI_sub, lI_mul, lI_neg, lI_div, lI_or, lI_and, lI_shl, lI_shr, nI_iI, lg_lt0, lg_gt0, lg_eq0, i_ne0', l_ne0', iI_lt, iI_le, iI_eq, lI_lt, lI_le, lI_eq, zb_0, zb_fit, zb_fit0, zb_fit1, i_one_zero, i_w_in, z_tb0, z_tb1, z_tb2, z_tb3, z_tb4, z_tb5, z_tb6, z_tb7, z_tb8, z_tbl, z_tu0, z_tu1, z_tu2, z_i_62, z_i_63, z_i_86, z_i_88, z_l_Y, z_ui_62, z_ui_63, z_ui_86, z_ui_88, z_ul_Y, z_sz_Y, z_sw_Y, iI_nat, z_ix_t, z_at, Int.add_zero, Int.sub_zero, Int.zero_add, Int.mul_zero, ne_eq, Bool.false_eq_true, Bool.true_eq_false, reduceCtorEq, eq_self, and_true, true_and, and_false, false_and, and_self, not_true_eq_false, not_false_eq_true, decide_true, decide_false, ↓reduceIte, Int.reduceEq, Int.reduceNe, Int.reduceLT, Int.reduceLE, Int.reduceAdd, Int.reduceSub, Int.reduceMul, Int.reduceNeg, Nat.reduceAdd, Nat.reduceEqDiff, Nat.reduceBEq, ↓z_x_eq, z_g_t, z_bI_s, z_bL_s, z_bR_s, z_bV_s, Int.cast_ofNat_Int, beq_self_eq_true, Bool.and_true, Bool.true_and, Bool.and_self, Bool.or_true, Bool.true_or, Bool.false_and, Bool.and_false, Bool.false_or, Bool.or_false, Bool.not_false, Bool.not_true, if_true, if_false, ite_true, ite_false, z_up_eq, z_up_app, z_ro_eq, isx, zb_f]
      exact ok_q
  · rw [c1] at smx isx
    have d1 := of_decide_eq_true c1
    have bx := fun σ => p_bc (d + 5) (x := x) σ ⟨by omega, by omega⟩
    by_cases c2 : (1 ≤ y ∧ y ≤ i_shl 1 (G 81 0) - 1)
    · have by' := fun σ => p_bc (d + 5) (x := y) σ ⟨by omega, by omega⟩
      by_cases c3 : i_bits y = i_bits x
      · have c4 : s_small y (G 81 0) = true := decide_eq_true ⟨c2.1, c2.2, by omega⟩
        rw [c4] at smy
        have hbx := i_bits10 (x := x) (by omega)
        have hby := i_bits10 (x := y) (by omega)
        obtain ⟨n, hn⟩ : ∃ n : Nat, (n : Int) = z_cnt 10 0 (i_has x) := ⟨(z_cnt 10 0 (i_has x)).toNat, by omega⟩
        have hny : (n : Int) = z_cnt 10 0 (i_has y) := by omega
        have hn1 : 1 ≤ n ∧ n ≤ 5 := by have := hbx.2 d1.1; omega
        have c3' : (i_bits x = i_bits y) = True := eq_true c3.symm
        -- lists
        have mx := s_mem_lay hn (G 71)
        have my := s_mem_lay hny (G 72)
        have lsx := fun s => p_list_71 (d + 4) T G s (x := x) (by omega)
        have lsy := fun s => p_list_72 (d + 4) T (z_up G 71 (s_lay x 10 0 0 (G 71)).2) s (x := y) (by omega)
        rw [← hn] at lsx
        rw [← hny, z_up_ne _ _ (show 72 ≠ 71 by omega)] at lsy
        have agM : o_ag n (s_lay x 10 0 0 (G 89)).2 (s_lay x 10 0 0 (G 71)).2 := fun i a b => s_lay_ag x 10 0 0 _ _ (fun k a b => by omega) i a (by omega)
        have agP : o_ag n (s_lay y 10 0 0 (G 90)).2 (s_lay y 10 0 0 (G 72)).2 := fun i a b => s_lay_ag y 10 0 0 _ _ (fun k a b => by omega) i a (by omega)
        have mx' := s_mem_lay hn (G 89)
        have my' := s_mem_lay hny (G 90)
        have hlx : 0 ≤ x ∧ x < i_shl 1 (G 81 1) := by omega
        have hly : 0 ≤ y ∧ y < i_shl 1 (G 81 0) := by omega
        obtain ⟨L, R, htb, hid⟩ := o_tb_hd hn1
        have hchk := o_tb_n hn1
        have hlen := o_tb_len n hn1.2
        rw [htb] at hchk hlen
        have hlen' : (R.length : Int) < 120 := by simp at hlen; omega
        -- both counts are the same on the table
        have hHH : ∀ L', L' ∈ L :: R → s_hc (G 81) (G 83) (s_lay x 10 0 0 (G 71)).2 (s_lay y 10 0 0 (G 72)).2 x y n (G 81 2).toNat 0 L' = s_hc (G 81) (G 83) (s_lay x 10 0 0 (G 89)).2 (s_lay y 10 0 0 (G 90)).2 x y n (G 81 2).toNat 0 L' := fun L' m => (s_hc_ag agM agP (o_chk_all _ hchk L' m) _).symm
        have hbest := s_bs_cg R L hHH
        have hbm := s_bs_mem (s_hc (G 81) (G 83) (s_lay x 10 0 0 (G 89)).2 (s_lay y 10 0 0 (G 90)).2 x y n (G 81 2).toNat 0) R L
        have hbv := hHH _ hbm
        have hHin : ∀ M P L', 0 ≤ s_hc (G 81) (G 83) M P x y n (G 81 2).toNat 0 L' ∧ s_hc (G 81) (G 83) M P x y n (G 81 2).toNat 0 L' ≤ 12 := fun M P L' => by
          have := z_cnt_in (fun no => m_holds (G 81) (G 83) (G 81 6) no (s_air (G 81) (G 83) M P x y (G 81 (82 + 2 * no)) n (o_e L')) (G 81 (82 + 2 * no))) (G 81 2).toNat 0
          unfold s_hc
          omega
        have hH' := s_bs_mem (s_hc (G 81) (G 83) (s_lay x 10 0 0 (G 71)).2 (s_lay y 10 0 0 (G 72)).2 x y n (G 81 2).toNat 0) R L
        have okb := o_okL_in (o_chk_all _ hchk _ hH')
        -- the class's world
        have ne2 : ∀ r, r ≠ 71 → r ≠ 72 → z_up (z_up G 71 (s_lay x 10 0 0 (G 71)).2) 72 (s_lay y 10 0 0 (G 72)).2 r = G r := fun r a b => by rw [z_up_ne _ _ b, z_up_ne _ _ a]
        have b71 : z_up (z_up G 71 (s_lay x 10 0 0 (G 71)).2) 72 (s_lay y 10 0 0 (G 72)).2 71 = (s_lay x 10 0 0 (G 71)).2 := by rw [z_up_ne _ _ (by omega), z_up_eq]
        have b72 : z_up (z_up G 71 (s_lay x 10 0 0 (G 71)).2) 72 (s_lay y 10 0 0 (G 72)).2 72 = (s_lay y 10 0 0 (G 72)).2 := z_up_eq _ _ _
        have e81 := ne2 81 (by omega) (by omega)
        have e83 := ne2 83 (by omega) (by omega)
        have e61 := ne2 61 (by omega) (by omega)
        have e64 := ne2 64 (by omega) (by omega)
        generalize z_up (z_up G 71 (s_lay x 10 0 0 (G 71)).2) 72 (s_lay y 10 0 0 (G 72)).2 = Gb at *
        have hQb : c_q T Gb := cq_eq hQ (fun r a => ne2 r (by omega) (by omega))
        have hMb : ∀ i : Int, 0 ≤ i → i < n → 0 ≤ Gb 71 i ∧ Gb 71 i < Gb 81 1 := by
          rw [b71, e81]
          exact fun i a b => ⟨(mx.1 i a b).1, i_has_lt m1 hlx ⟨(mx.1 i a b).1, (mx.1 i a b).2.1⟩ (mx.1 i a b).2.2⟩
        have hPb : ∀ i : Int, 0 ≤ i → i < n → 0 ≤ Gb 72 i ∧ Gb 72 i < Gb 81 0 := by
          rw [b72, e81]
          exact fun i a b => ⟨(my.1 i a b).1, i_has_lt m0 hly ⟨(my.1 i a b).1, (my.1 i a b).2.1⟩ (my.1 i a b).2.2⟩
        have gcw : ∀ G2, g_w Gb G2 (Gb 81 2) → ∀ O, g_c G c (z_up G2 73 O) := by
          intro G2 w O
          refine ⟨fun r a b e => ?_, ?_⟩
          · rw [z_up_ne _ _ (by omega), w.1 r a b (by omega) (by omega) (by omega)]; exact ne2 r (by omega) (by omega)
          · unfold z_ask
            rw [z_up_ne _ _ (by omega), z_up_ne _ _ (by omega)]
            have w3 := w.2.2.1
            rw [e61, e81] at w3
            have := hask.2.1
            exact ⟨w.2.1, by omega, w.2.2.2⟩
        have gcw0 : g_c G c Gb := ⟨fun r a b e => ne2 r (by omega) (by omega), by unfold z_ask; rw [e61, e64]; exact ⟨hask.1, by have := hask.2.1; omega, hask.2.2⟩⟩
        have cb := fun ix s => p_cbest d T Gb s (n := n) (x := x) (y := y) (p := p) (ix := ix) (L := L) (R := R) hQb hn1 hMb hPb (by rw [e61]; have := hask.1; have := hask.2.1; omega) (by rw [e61, e64]; exact hask.2.2) hchk hlen' hid
        simp only [b71, b72, e81, e83] at cb
        have pix := fun s => p_ix (d + 5) T Gb s (n := n) (p := p) hn1.2 hp (by rw [b71]; exact fun i a b => by have := mx.1 i a b; exact ⟨by omega, by omega⟩)
        rw [b71] at pix
        -- the model's world
        have mrun : ∀ (G1 : ZG) s1, g_c G c G1 → ∃ (G2 : ZG) (s2 : ZG × ZG), z_bI (z_call (d + 10) 249 [vi (iI x), vr 89] (z_Y T G1 s1)) (fun v10 σ9 => z_g (z_kd σ9 80 == 12) (z_g (z_kd (z_ui σ9 80 31 v10) 80 == 12) (z_bI (z_call (d + 10) 249 [vi (iI y), vr (z_r (z_ui σ9 80 31 v10) 80 27)] (z_ui σ9 80 31 v10)) (fun v13 σ12 => z_w d_M_seated (z_call (d + 10)) 86 [some (vr 80), none, some (vi (iI y)), some (vi (iI p)), some (vi (iI 0)), none] [] σ12)))) = (if iI p = iI (-1) then some (vi (iI (s_hc (G 81) (G 83) (s_lay x 10 0 0 (G 89)).2 (s_lay y 10 0 0 (G 90)).2 x y n (G 81 2).toNat 0 (s_bs (s_hc (G 81) (G 83) (s_lay x 10 0 0 (G 89)).2 (s_lay y 10 0 0 (G 90)).2 x y n (G 81 2).toNat 0) R L))), z_Y T G2 s2) else z_w d_M_seated (z_call (d + 10)) 128 [some (vr 80), none, none, some (vi (iI p)), none, some (vi (iI 0))] [] (z_Y T G2 s2)) ∧ z_I S0 (c + 1) T G2 ∧ G2 89 = (s_lay x 10 0 0 (G 89)).2 ∧ ∀ j : Int, 0 ≤ j → j < n → G2 92 j = (s_lay y 10 0 0 (G 90)).2 (o_e (s_bs (s_hc (G 81) (G 83) (s_lay x 10 0 0 (G 89)).2 (s_lay y 10 0 0 (G 90)).2 x y n (G 81 2).toNat 0) R L) j) := by
          intro G1 s1 hg
          have g89 := hg.1 89 (by omega) (by omega) (by omega)
          have g90 := hg.1 90 (by omega) (by omega) (by omega)
          have g80 := hg.1 80 (by omega) (by omega) (by omega)
          have g81 := hg.1 81 (by omega) (by omega) (by omega)
          have g83 := hg.1 83 (by omega) (by omega) (by omega)
          have l1 := p_lay_89 (d + 8) T G1 s1 (x := x)
          rw [← hn, g89] at l1
          have l2 := p_lay_90 (d + 8) T (z_up (z_up G1 80 (z_ro (G 80) 31 n)) 89 (s_lay x 10 0 0 (G 89)).2) s1 (x := y)
          have l90 : z_up (z_up G1 80 (z_ro (G 80) 31 n)) 89 (s_lay x 10 0 0 (G 89)).2 90 = G 90 := by rw [z_up_ne _ _ (by omega), z_up_ne _ _ (by omega), g90]
          rw [← hny, l90] at l2
          have n1 : ∀ r, r ≠ 80 → r ≠ 89 → r ≠ 90 → z_up (z_up (z_up G1 80 (z_ro (G 80) 31 n)) 89 (s_lay x 10 0 0 (G 89)).2) 90 (s_lay y 10 0 0 (G 90)).2 r = G1 r := fun r a b e => by rw [z_up_ne _ _ e, z_up_ne _ _ b, z_up_ne _ _ a]
          have n80 : z_up (z_up (z_up G1 80 (z_ro (G 80) 31 n)) 89 (s_lay x 10 0 0 (G 89)).2) 90 (s_lay y 10 0 0 (G 90)).2 80 = z_ro (G 80) 31 n := by rw [z_up_ne _ _ (by omega), z_up_ne _ _ (by omega), z_up_eq]
          have n89 : z_up (z_up (z_up G1 80 (z_ro (G 80) 31 n)) 89 (s_lay x 10 0 0 (G 89)).2) 90 (s_lay y 10 0 0 (G 90)).2 89 = (s_lay x 10 0 0 (G 89)).2 := by rw [z_up_ne _ _ (by omega), z_up_eq]
          have n90 : z_up (z_up (z_up G1 80 (z_ro (G 80) 31 n)) 89 (s_lay x 10 0 0 (G 89)).2) 90 (s_lay y 10 0 0 (G 90)).2 90 = (s_lay y 10 0 0 (G 90)).2 := z_up_eq _ _ _
          have l2' : z_call (d + 10) 249 [vi (iI y), vr 90] (z_Y T (z_up (z_up G1 80 (z_ro (G 80) 31 n)) 89 (s_lay x 10 0 0 (G 89)).2) s1) = _ := l2
          have n81 := (n1 81 (by omega) (by omega) (by omega)).trans g81
          have n83 := (n1 83 (by omega) (by omega) (by omega)).trans g83
          generalize hGm : z_up (z_up (z_up G1 80 (z_ro (G 80) 31 n)) 89 (s_lay x 10 0 0 (G 89)).2) 90 (s_lay y 10 0 0 (G 90)).2 = Gm at *
          obtain ⟨G2, s2, e2, r1, r2, r3⟩ := p_mbest (d + 1) T Gm s1 (W0 := G 89) (n := n) (x := x) (y := y) (p := p) (L := L) (R := R) (by
            unfold m_q
            rw [n81, n83, n80, z_ro_ne _ _ (by omega), z_ro_ne _ _ (by omega)]; exact hQm) (by rw [n80, z_ro_ne _ _ (by omega)]; exact hic) hn1 hn (by rw [n81]; exact hlx) (by rw [n80, z_ro_eq]) n89 (by
            rw [n90, n81]
            exact fun i a b => ⟨(my'.1 i a b).1, i_has_lt m0 hly ⟨(my'.1 i a b).1, (my'.1 i a b).2.1⟩ (my'.1 i a b).2.2⟩) hchk hid hy
          rw [n81, n83, n90] at e2 r3
          refine ⟨G2, s2, ?_, I_g h hc hg (fun r a b e => ?_) (r2.trans n81) (fun k a => ?_), ?_, r3⟩
          · rw [← e2]
            simp -implicitDefEqProofs (disch := first | assumption | omega | rfl | (simp only [z_up_eq, z_up_app, ↓reduceIte, Nat.reduceEqDiff]; omega)) only [z_lit0, z_lit1, z_lit2, z_litl, iI_add, iI_sub, iI_mul, iI_neg, iI_and, iI_or, iI_xor, iI_shl, iI_shr, iI_ushr, iI_div, iI_b, iI_c, iI_i2l, lI_l2i, lI_add, lI_sub, lI_mul, lI_neg, lI_div, lI_or, lI_and, lI_shl, lI_shr, nI_iI, lg_lt0, lg_gt0, lg_eq0, i_ne0', l_ne0', iI_lt, iI_le, iI_eq, lI_lt, lI_le, lI_eq, zb_0, zb_fit, zb_fit0, zb_fit1, i_one_zero, i_w_in, z_tb0, z_tb1, z_tb2, z_tb3, z_tb4, z_tb5, z_tb6, z_tb7, z_tb8, z_tbl, z_tu0, z_tu1, z_tu2, z_i_62, z_i_63, z_i_86, z_i_88, z_l_Y, z_ui_62, z_ui_63, z_ui_86, z_ui_88, z_ul_Y, z_sz_Y, z_sw_Y, iI_nat, z_ix_t, z_at, Int.add_zero, Int.sub_zero, Int.zero_add, Int.mul_zero, ne_eq, Bool.false_eq_true, Bool.true_eq_false, reduceCtorEq, eq_self, and_true, true_and, and_false, false_and, and_self, not_true_eq_false, not_false_eq_true, decide_true, decide_false, ↓reduceIte, Int.reduceEq, Int.reduceNe, Int.reduceLT, Int.reduceLE, Int.reduceAdd, Int.reduceSub, Int.reduceMul, Int.reduceNeg, Nat.reduceAdd, Nat.reduceEqDiff, Nat.reduceBEq, ↓z_x_eq, z_g_t, z_bI_s, z_bL_s, z_bR_s, z_bV_s, Int.cast_ofNat_Int, beq_self_eq_true, Bool.and_true, Bool.true_and, Bool.and_self, Bool.or_true, Bool.true_or, Bool.false_and, Bool.and_false, Bool.false_or, Bool.or_false, Bool.not_false, Bool.not_true, if_true, if_false, ite_true, ite_false, z_up_eq, z_up_app, z_ro_eq, l1, g80, z_up_cm, l2', hGm]
          · rw [r1 r b (by omega) (by omega) (by omega)]; exact n1 r a (by omega) (by omega)
          · rw [r1 80 (by omega) (by omega) (by omega) (by omega), n80, z_ro_ne _ _ (by omega)]
          · rw [r1 89 (by omega) (by omega) (by omega) (by omega)]; exact n89
        have isx1 : ∀ (G1 : ZG) s, g_c G c G1 → z_call (d + 10) 248 [vr 80, vi (iI x)] (z_Y T G1 s) = some (vi (iI 1), z_Y T G1 s) := fun G1 s hg => by
          have g81 := hg.1 81 (by omega) (by omega) (by omega)
          have := p_isSome (d + 8) T G1 s (x := x) hx (by rw [g81]; exact m1)
          rw [g81, c1] at this
          exact this
        have c3m : (i_bits y = i_bits x) = True := eq_true c3
        by_cases cp : p = -1
        · refine pr_mid (vi (iI (s_hc (G 81) (G 83) (s_lay x 10 0 0 (G 89)).2 (s_lay y 10 0 0 (G 90)).2 x y n (G 81 2).toNat 0 (s_bs (s_hc (G 81) (G 83) (s_lay x 10 0 0 (G 89)).2 (s_lay y 10 0 0 (G 90)).2 x y n (G 81 2).toNat 0) R L)))) (g_c G c) (fun s => ?_) (fun G1 s1 hg => ?_)
          · obtain ⟨b, G2, s2, e1, e2, e3, e4, e5⟩ := cb (s_ix (s_lay x 10 0 0 (G 71)).2 n p) s
            have e4' : G2 75 b = _ := e4.trans ((congrArg _ hbest).trans hbv)
            have fin : z_w d_Ga_bestSeats (z_call (d + 6)) 138 [some (vr 70), none, none, some (vi (iI p)), some (vi (iI n)), some (vi (iI (s_ix (s_lay x 10 0 0 (G 71)).2 n p))), some (vi (iI b)), some (vi (iI 120))] [] (z_Y T G2 s2) = some (vi (iI (G2 75 b)), z_Y T G2 s2) := by
              rw [e_Ga_bestSeats_138, cp]
              simp -implicitDefEqProofs (disch := first | assumption | omega | rfl | (simp only [z_up_eq, z_up_app, ↓reduceIte, Nat.reduceEqDiff]; omega)) only [z_lit0, z_lit1, z_lit2, z_litl, iI_add, iI_sub, iI_mul, iI_neg, iI_and, iI_or, iI_xor, iI_shl, iI_shr, iI_ushr, iI_div, iI_b, iI_c, iI_i2l, lI_l2i, lI_add, lI_sub, lI_mul, lI_neg, lI_div, lI_or, lI_and, lI_shl, lI_shr, nI_iI, lg_lt0, lg_gt0, lg_eq0, i_ne0', l_ne0', iI_lt, iI_le, iI_eq, lI_lt, lI_le, lI_eq, zb_0, zb_fit, zb_fit0, zb_fit1, i_one_zero, i_w_in, z_tb0, z_tb1, z_tb2, z_tb3, z_tb4, z_tb5, z_tb6, z_tb7, z_tb8, z_tbl, z_tu0, z_tu1, z_tu2, z_i_62, z_i_63, z_i_86, z_i_88, z_l_Y, z_ui_62, z_ui_63, z_ui_86, z_ui_88, z_ul_Y, z_sz_Y, z_sw_Y, iI_nat, z_ix_t, z_at, Int.add_zero, Int.sub_zero, Int.zero_add, Int.mul_zero, ne_eq, Bool.false_eq_true, Bool.true_eq_false, reduceCtorEq, eq_self, and_true, true_and, and_false, false_and, and_self, not_true_eq_false, not_false_eq_true, decide_true, decide_false, ↓reduceIte, Int.reduceEq, Int.reduceNe, Int.reduceLT, Int.reduceLE, Int.reduceAdd, Int.reduceSub, Int.reduceMul, Int.reduceNeg, Nat.reduceAdd, Nat.reduceEqDiff, Nat.reduceBEq, ↓z_x_eq, z_g_t, z_bI_s, z_bL_s, z_bR_s, z_bV_s, Int.cast_ofNat_Int, beq_self_eq_true, Bool.and_true, Bool.true_and, Bool.and_self, Bool.or_true, Bool.true_or, Bool.false_and, Bool.and_false, Bool.false_or, Bool.or_false, Bool.not_false, Bool.not_true, if_true, if_false, ite_true, ite_false, z_up_eq, z_up_app, z_ro_eq]
            rw [fin, e4'] at e1
            have w := gcw G2 (by rw [e81]; exact e5) (G2 73)
            rw [z_up_id] at w
            have cp' : (p = -1) = True := eq_true cp
            have px := pix s
            rw [e_B_seated]
            simp -implicitDefEqProofs (disch := first | assumption | omega | rfl | (simp only [z_up_eq, z_up_app, ↓reduceIte, Nat.reduceEqDiff]; omega)) only [z_lit0, z_lit1, z_lit2, z_litl, iI_add, iI_sub, iI_mul, iI_neg, iI_and, iI_or, iI_xor, iI_shl, iI_shr, iI_ushr, iI_div, iI_b, iI_c, iI_i2l, lI_l2i, lI_add, lI_sub, lI_mul, lI_neg, lI_div, lI_or, lI_and, lI_shl, lI_shr, nI_iI, lg_lt0, lg_gt0, lg_eq0, i_ne0', l_ne0', iI_lt, iI_le, iI_eq, lI_lt, lI_le, lI_eq, zb_0, zb_fit, zb_fit0, zb_fit1, i_one_zero, i_w_in, z_tb0, z_tb1, z_tb2, z_tb3, z_tb4, z_tb5, z_tb6, z_tb7, z_tb8, z_tbl, z_tu0, z_tu1, z_tu2, z_i_62, z_i_63, z_i_86, z_i_88, z_l_Y, z_ui_62, z_ui_63, z_ui_86, z_ui_88, z_ul_Y, z_sz_Y, z_sw_Y, iI_nat, z_ix_t, z_at, Int.add_zero, Int.sub_zero, Int.zero_add, Int.mul_zero, ne_eq, Bool.false_eq_true, Bool.true_eq_false, reduceCtorEq, eq_self, and_true, true_and, and_false, false_and, and_self, not_true_eq_false, not_false_eq_true, decide_true, decide_false, ↓reduceIte, Int.reduceEq, Int.reduceNe, Int.reduceLT, Int.reduceLE, Int.reduceAdd, Int.reduceSub, Int.reduceMul, Int.reduceNeg, Nat.reduceAdd, Nat.reduceEqDiff, Nat.reduceBEq, ↓z_x_eq, z_g_t, z_bI_s, z_bL_s, z_bR_s, z_bV_s, Int.cast_ofNat_Int, beq_self_eq_true, Bool.and_true, Bool.true_and, Bool.and_self, Bool.or_true, Bool.true_or, Bool.false_and, Bool.and_false, Bool.false_or, Bool.or_false, Bool.not_false, Bool.not_true, if_true, if_false, ite_true, ite_false, z_up_eq, z_up_app, z_ro_eq, e_Ga_bestSeats, q1, q0, smx, smy, zb_t, bx, by', c3', lsx, lsy, px, cp', e1]
            exact ok_qe ok_q w
          · obtain ⟨G2, s2, e1, e2, e3, e4⟩ := mrun G1 s1 hg
            have ip : (iI p = iI (-1)) = True := eq_true (by rw [cp])
            simp only [ip, if_true] at e1
            have i1 := isx1 G1 s1 hg
            have g81 := hg.1 81 (by omega) (by omega) (by omega)
            have cp' : (p = -1) = True := eq_true cp
            rw [e_M_seated]
            simp -implicitDefEqProofs (disch := first | assumption | omega | rfl | (simp only [z_up_eq, z_up_app, ↓reduceIte, Nat.reduceEqDiff]; omega)) only [z_lit0, z_lit1, z_lit2, z_litl, iI_add, iI_sub, iI_mul, iI_neg, iI_and, iI_or, iI_xor, iI_shl, iI_shr, iI_ushr, iI_div, iI_b, iI_c, iI_i2l, lI_l2i, lI_add, lI_sub, lI_mul, lI_neg, lI_div, lI_or, lI_and, lI_shl, lI_shr, nI_iI, lg_lt0, lg_gt0, lg_eq0, i_ne0', l_ne0', iI_lt, iI_le, iI_eq, lI_lt, lI_le, lI_eq, zb_0, zb_fit, zb_fit0, zb_fit1, i_one_zero, i_w_in, z_tb0, z_tb1, z_tb2, z_tb3, z_tb4, z_tb5, z_tb6, z_tb7, z_tb8, z_tbl, z_tu0, z_tu1, z_tu2, z_i_62, z_i_63, z_i_86, z_i_88, z_l_Y, z_ui_62, z_ui_63, z_ui_86, z_ui_88, z_ul_Y, z_sz_Y, z_sw_Y, iI_nat, z_ix_t, z_at, Int.add_zero, Int.sub_zero, Int.zero_add, Int.mul_zero, ne_eq, Bool.false_eq_true, Bool.true_eq_false, reduceCtorEq, eq_self, and_true, true_and, and_false, false_and, and_self, not_true_eq_false, not_false_eq_true, decide_true, decide_false, ↓reduceIte, Int.reduceEq, Int.reduceNe, Int.reduceLT, Int.reduceLE, Int.reduceAdd, Int.reduceSub, Int.reduceMul, Int.reduceNeg, Nat.reduceAdd, Nat.reduceEqDiff, Nat.reduceBEq, ↓z_x_eq, z_g_t, z_bI_s, z_bL_s, z_bR_s, z_bV_s, Int.cast_ofNat_Int, beq_self_eq_true, Bool.and_true, Bool.true_and, Bool.and_self, Bool.or_true, Bool.true_or, Bool.false_and, Bool.and_false, Bool.false_or, Bool.or_false, Bool.not_false, Bool.not_true, if_true, if_false, ite_true, ite_false, z_up_eq, z_up_app, z_ro_eq, i1, g81, p_isIn, c2, zb_t, p_mbits, c3m, cp', e1]
            exact ok_qe ok_q e2
        · have cp' : (p = -1) = False := eq_false cp
          by_cases cm : 0 ≤ p ∧ p ≤ G 81 1 - 1 ∧ i_has x p = true
          · obtain ⟨k, k1, k2, k3⟩ := mx.2.2 p cm.1 (by omega) cm.2.2
            have hix : s_ix (s_lay x 10 0 0 (G 71)).2 n p = k := by rw [← k3]; exact s_mem_ix mx ⟨k1, k2⟩
            have hix' : s_ix (s_lay x 10 0 0 (G 89)).2 n p = k := (s_ix_ag agM p).trans hix
            refine pr_mid (vi (iI ((s_lay y 10 0 0 (G 72)).2 (o_e (s_bs (s_hc (G 81) (G 83) (s_lay x 10 0 0 (G 71)).2 (s_lay y 10 0 0 (G 72)).2 x y n (G 81 2).toNat 0) R L) k)))) (g_c G c) (fun s => ?_) (fun G1 s1 hg => ?_)
            · obtain ⟨b, G2, s2, e1, e2, e3, e4, e5⟩ := cb k s
              have px := pix s
              rw [hix] at px
              obtain ⟨O', eo⟩ := p_orderAt (d + 3) T G2 s2 (n := n) (ix := k) (L := L) (R := R) hn1 e2 hchk hid e3 ⟨k1, k2⟩
              have okk := okb k k1 k2
              have g72 : G2 72 = (s_lay y 10 0 0 (G 72)).2 := (e5.1 72 (by omega) (by omega) (by omega) (by omega) (by omega)).trans b72
              have fin : z_w d_Ga_bestSeats (z_call (d + 6)) 138 [some (vr 70), none, none, some (vi (iI p)), some (vi (iI n)), some (vi (iI k)), some (vi (iI b)), some (vi (iI 120))] [] (z_Y T G2 s2) = some (vi (iI ((s_lay y 10 0 0 (G 72)).2 (o_e (s_bs (s_hc (G 81) (G 83) (s_lay x 10 0 0 (G 71)).2 (s_lay y 10 0 0 (G 72)).2 x y n (G 81 2).toNat 0) R L) k))), z_Y T (z_up G2 73 O') s2) := by
                rw [e_Ga_bestSeats_138]
                simp -implicitDefEqProofs (disch := first | assumption | omega | rfl | (simp only [z_up_eq, z_up_app, ↓reduceIte, Nat.reduceEqDiff]; omega)) only [z_lit0, z_lit1, z_lit2, z_litl, iI_add, iI_sub, iI_mul, iI_neg, iI_and, iI_or, iI_xor, iI_shl, iI_shr, iI_ushr, iI_div, iI_b, iI_c, iI_i2l, lI_l2i, lI_add, lI_sub, lI_mul, lI_neg, lI_div, lI_or, lI_and, lI_shl, lI_shr, nI_iI, lg_lt0, lg_gt0, lg_eq0, i_ne0', l_ne0', iI_lt, iI_le, iI_eq, lI_lt, lI_le, lI_eq, zb_0, zb_fit, zb_fit0, zb_fit1, i_one_zero, i_w_in, z_tb0, z_tb1, z_tb2, z_tb3, z_tb4, z_tb5, z_tb6, z_tb7, z_tb8, z_tbl, z_tu0, z_tu1, z_tu2, z_i_62, z_i_63, z_i_86, z_i_88, z_l_Y, z_ui_62, z_ui_63, z_ui_86, z_ui_88, z_ul_Y, z_sz_Y, z_sw_Y, iI_nat, z_ix_t, z_at, Int.add_zero, Int.sub_zero, Int.zero_add, Int.mul_zero, ne_eq, Bool.false_eq_true, Bool.true_eq_false, reduceCtorEq, eq_self, and_true, true_and, and_false, false_and, and_self, not_true_eq_false, not_false_eq_true, decide_true, decide_false, ↓reduceIte, Int.reduceEq, Int.reduceNe, Int.reduceLT, Int.reduceLE, Int.reduceAdd, Int.reduceSub, Int.reduceMul, Int.reduceNeg, Nat.reduceAdd, Nat.reduceEqDiff, Nat.reduceBEq, ↓z_x_eq, z_g_t, z_bI_s, z_bL_s, z_bR_s, z_bV_s, Int.cast_ofNat_Int, beq_self_eq_true, Bool.and_true, Bool.true_and, Bool.and_self, Bool.or_true, Bool.true_or, Bool.false_and, Bool.and_false, Bool.false_or, Bool.or_false, Bool.not_false, Bool.not_true, if_true, if_false, ite_true, ite_false, z_up_eq, z_up_app, z_ro_eq, cp', eo, g72]
              rw [fin] at e1
              have w := gcw G2 (by rw [e81]; exact e5) O'
              have kn : (k = -1) = False := eq_false (by omega)
              rw [e_B_seated]
              simp -implicitDefEqProofs (disch := first | assumption | omega | rfl | (simp only [z_up_eq, z_up_app, ↓reduceIte, Nat.reduceEqDiff]; omega)) only [z_lit0, z_lit1, z_lit2, z_litl, iI_add, iI_sub, iI_mul, iI_neg, iI_and, iI_or, iI_xor, iI_shl, iI_shr, iI_ushr, iI_div, iI_b, iI_c, iI_i2l, lI_l2i, lI_add, lI_sub, lI_mul, lI_neg, lI_div, lI_or, lI_and, lI_shl, lI_shr, nI_iI, lg_lt0, lg_gt0, lg_eq0, i_ne0', l_ne0', iI_lt, iI_le, iI_eq, lI_lt, lI_le, lI_eq, zb_0, zb_fit, zb_fit0, zb_fit1, i_one_zero, i_w_in, z_tb0, z_tb1, z_tb2, z_tb3, z_tb4, z_tb5, z_tb6, z_tb7, z_tb8, z_tbl, z_tu0, z_tu1, z_tu2, z_i_62, z_i_63, z_i_86, z_i_88, z_l_Y, z_ui_62, z_ui_63, z_ui_86, z_ui_88, z_ul_Y, z_sz_Y, z_sw_Y, iI_nat, z_ix_t, z_at, Int.add_zero, Int.sub_zero, Int.zero_add, Int.mul_zero, ne_eq, Bool.false_eq_true, Bool.true_eq_false, reduceCtorEq, eq_self, and_true, true_and, and_false, false_and, and_self, not_true_eq_false, not_false_eq_true, decide_true, decide_false, ↓reduceIte, Int.reduceEq, Int.reduceNe, Int.reduceLT, Int.reduceLE, Int.reduceAdd, Int.reduceSub, Int.reduceMul, Int.reduceNeg, Nat.reduceAdd, Nat.reduceEqDiff, Nat.reduceBEq, ↓z_x_eq, z_g_t, z_bI_s, z_bL_s, z_bR_s, z_bV_s, Int.cast_ofNat_Int, beq_self_eq_true, Bool.and_true, Bool.true_and, Bool.and_self, Bool.or_true, Bool.true_or, Bool.false_and, Bool.and_false, Bool.false_or, Bool.or_false, Bool.not_false, Bool.not_true, if_true, if_false, ite_true, ite_false, z_up_eq, z_up_app, z_ro_eq, e_Ga_bestSeats, q1, q0, smx, smy, zb_t, bx, by', c3', lsx, lsy, px, cp', kn, e1]
              exact ok_qe ok_q w
            · obtain ⟨G2, s2, e1, e2, e3, e4⟩ := mrun G1 s1 hg
              have ip : (iI p = iI (-1)) = False := by rw [iI_eq ⟨hp, ⟨by omega, by omega⟩⟩]; exact cp'
              simp only [ip, if_false] at e1
              have i1 := isx1 G1 s1 hg
              have g81 := hg.1 81 (by omega) (by omega) (by omega)
              have i2 := p_isPerson (d + 8) T G1 s1 (x := p) ⟨hp, by rw [g81]; exact m1⟩
              rw [g81] at i2
              have cm1 : 0 ≤ p ∧ p ≤ G 81 1 - 1 := ⟨cm.1, cm.2.1⟩
              have cm2 := cm.2.2
              have e128 := p_ms_128 (d + 10) T G2 s2 (n := n) (p := p) hn1.2 hp (by rw [e3]; exact fun i a b => by have := mx'.1 i a b; exact ⟨by omega, by omega⟩) n 0 (by omega) (by omega)
              have ef : z_find n 0 (fun i => decide (G2 89 i = p)) = k := by rw [e3]; exact hix'
              rw [ef] at e128
              have e128' := e128 (by omega)
              have ev : G2 92 k = (s_lay y 10 0 0 (G 72)).2 (o_e (s_bs (s_hc (G 81) (G 83) (s_lay x 10 0 0 (G 71)).2 (s_lay y 10 0 0 (G 72)).2 x y n (G 81 2).toNat 0) R L) k) := by
                rw [e4 k k1 k2, ← hbest]
                have okk := okb k k1 k2
                exact agP _ okk.1 okk.2
              rw [ev] at e128'
              rw [e_M_seated]
              simp -implicitDefEqProofs (disch := first | assumption | omega | rfl | (simp only [z_up_eq, z_up_app, ↓reduceIte, Nat.reduceEqDiff]; omega)) only [z_lit0, z_lit1, z_lit2, z_litl, iI_add, iI_sub, iI_mul, iI_neg, iI_and, iI_or, iI_xor, iI_shl, iI_shr, iI_ushr, iI_div, iI_b, iI_c, iI_i2l, lI_l2i, lI_add, lI_sub, lI_mul, lI_neg, lI_div, lI_or, lI_and, lI_shl, lI_shr, nI_iI, lg_lt0, lg_gt0, lg_eq0, i_ne0', l_ne0', iI_lt, iI_le, iI_eq, lI_lt, lI_le, lI_eq, zb_0, zb_fit, zb_fit0, zb_fit1, i_one_zero, i_w_in, z_tb0, z_tb1, z_tb2, z_tb3, z_tb4, z_tb5, z_tb6, z_tb7, z_tb8, z_tbl, z_tu0, z_tu1, z_tu2, z_i_62, z_i_63, z_i_86, z_i_88, z_l_Y, z_ui_62, z_ui_63, z_ui_86, z_ui_88, z_ul_Y, z_sz_Y, z_sw_Y, iI_nat, z_ix_t, z_at, Int.add_zero, Int.sub_zero, Int.zero_add, Int.mul_zero, ne_eq, Bool.false_eq_true, Bool.true_eq_false, reduceCtorEq, eq_self, and_true, true_and, and_false, false_and, and_self, not_true_eq_false, not_false_eq_true, decide_true, decide_false, ↓reduceIte, Int.reduceEq, Int.reduceNe, Int.reduceLT, Int.reduceLE, Int.reduceAdd, Int.reduceSub, Int.reduceMul, Int.reduceNeg, Nat.reduceAdd, Nat.reduceEqDiff, Nat.reduceBEq, ↓z_x_eq, z_g_t, z_bI_s, z_bL_s, z_bR_s, z_bV_s, Int.cast_ofNat_Int, beq_self_eq_true, Bool.and_true, Bool.true_and, Bool.and_self, Bool.or_true, Bool.true_or, Bool.false_and, Bool.and_false, Bool.false_or, Bool.or_false, Bool.not_false, Bool.not_true, if_true, if_false, ite_true, ite_false, z_up_eq, z_up_app, z_ro_eq, i1, g81, p_isIn, c2, zb_t, p_mbits, c3m, cp', i2, cm1, p_mhas, cm2, e1, e128']
              exact ok_qe ok_q e2
          · have hix : s_ix (s_lay x 10 0 0 (G 71)).2 n p = -1 := by
              rcases s_ix_in (s_lay x 10 0 0 (G 71)).2 n p with f | ⟨f1, f2, f3⟩
              · exact f
              · exfalso
                have q := mx.1 _ f1 f2
                rw [f3] at q
                have := i_has_lt m1 hlx ⟨q.1, q.2.1⟩ q.2.2
                exact cm ⟨q.1, by omega, q.2.2⟩
            refine pr_mid (vi (iI (-1))) (g_c G c) (fun s => ?_) (fun G1 s1 hg => ?_)
            · have px := pix s
              rw [hix] at px
              rw [e_B_seated]
              simp -implicitDefEqProofs (disch := first | assumption | omega | rfl | (simp only [z_up_eq, z_up_app, ↓reduceIte, Nat.reduceEqDiff]; omega)) only [z_lit0, z_lit1, z_lit2, z_litl, iI_add, iI_sub, iI_mul, iI_neg, iI_and, iI_or, iI_xor, iI_shl, iI_shr, iI_ushr, iI_div, iI_b, iI_c, iI_i2l, lI_l2i, lI_add, lI_sub, lI_mul, lI_neg, lI_div, lI_or, lI_and, lI_shl, lI_shr, nI_iI, lg_lt0, lg_gt0, lg_eq0, i_ne0', l_ne0', iI_lt, iI_le, iI_eq, lI_lt, lI_le, lI_eq, zb_0, zb_fit, zb_fit0, zb_fit1, i_one_zero, i_w_in, z_tb0, z_tb1, z_tb2, z_tb3, z_tb4, z_tb5, z_tb6, z_tb7, z_tb8, z_tbl, z_tu0, z_tu1, z_tu2, z_i_62, z_i_63, z_i_86, z_i_88, z_l_Y, z_ui_62, z_ui_63, z_ui_86, z_ui_88, z_ul_Y, z_sz_Y, z_sw_Y, iI_nat, z_ix_t, z_at, Int.add_zero, Int.sub_zero, Int.zero_add, Int.mul_zero, ne_eq, Bool.false_eq_true, Bool.true_eq_false, reduceCtorEq, eq_self, and_true, true_and, and_false, false_and, and_self, not_true_eq_false, not_false_eq_true, decide_true, decide_false, ↓reduceIte, Int.reduceEq, Int.reduceNe, Int.reduceLT, Int.reduceLE, Int.reduceAdd, Int.reduceSub, Int.reduceMul, Int.reduceNeg, Nat.reduceAdd, Nat.reduceEqDiff, Nat.reduceBEq, ↓z_x_eq, z_g_t, z_bI_s, z_bL_s, z_bR_s, z_bV_s, Int.cast_ofNat_Int, beq_self_eq_true, Bool.and_true, Bool.true_and, Bool.and_self, Bool.or_true, Bool.true_or, Bool.false_and, Bool.and_false, Bool.false_or, Bool.or_false, Bool.not_false, Bool.not_true, if_true, if_false, ite_true, ite_false, z_up_eq, z_up_app, z_ro_eq, e_Ga_bestSeats, q1, q0, smx, smy, zb_t, bx, by', c3', lsx, lsy, px, cp']
              exact ok_qe ok_q gcw0
            · have i1 := isx1 G1 s1 hg
              have g81 := hg.1 81 (by omega) (by omega) (by omega)
              have i2 := p_isPerson (d + 8) T G1 s1 (x := p) ⟨hp, by rw [g81]; exact m1⟩
              rw [g81] at i2
              have wi := I_g (G2 := G1) h hc hg (fun r a b e => rfl) g81 (fun k a => by rw [hg.1 80 (by omega) (by omega) (by omega)])
              rw [e_M_seated]
              by_cases cm1 : 0 ≤ p ∧ p ≤ G 81 1 - 1
              · have cm2 : i_has x p = false := by
                  cases hb : i_has x p
                  · rfl
                  · exact absurd ⟨cm1.1, cm1.2, hb⟩ cm
                simp -implicitDefEqProofs (disch := first | assumption | omega | rfl | (simp only [z_up_eq, z_up_app, ↓reduceIte, Nat.reduceEqDiff]; omega)) only [z_lit0, z_lit1, z_lit2, z_litl, iI_add, iI_sub, iI_mul, iI_neg, iI_and, iI_or, iI_xor, iI_shl, iI_shr, iI_ushr, iI_div, iI_b, iI_c, iI_i2l, lI_l2i, lI_add, lI_sub, lI_mul, lI_neg, lI_div, lI_or, lI_and, lI_shl, lI_shr, nI_iI, lg_lt0, lg_gt0, lg_eq0, i_ne0', l_ne0', iI_lt, iI_le, iI_eq, lI_lt, lI_le, lI_eq, zb_0, zb_fit, zb_fit0, zb_fit1, i_one_zero, i_w_in, z_tb0, z_tb1, z_tb2, z_tb3, z_tb4, z_tb5, z_tb6, z_tb7, z_tb8, z_tbl, z_tu0, z_tu1, z_tu2, z_i_62, z_i_63, z_i_86, z_i_88, z_l_Y, z_ui_62, z_ui_63, z_ui_86, z_ui_88, z_ul_Y, z_sz_Y, z_sw_Y, iI_nat, z_ix_t, z_at, Int.add_zero, Int.sub_zero, Int.zero_add, Int.mul_zero, ne_eq, Bool.false_eq_true, Bool.true_eq_false, reduceCtorEq, eq_self, and_true, true_and, and_false, false_and, and_self, not_true_eq_false, not_false_eq_true, decide_true, decide_false, ↓reduceIte, Int.reduceEq, Int.reduceNe, Int.reduceLT, Int.reduceLE, Int.reduceAdd, Int.reduceSub, Int.reduceMul, Int.reduceNeg, Nat.reduceAdd, Nat.reduceEqDiff, Nat.reduceBEq, ↓z_x_eq, z_g_t, z_bI_s, z_bL_s, z_bR_s, z_bV_s, Int.cast_ofNat_Int, beq_self_eq_true, Bool.and_true, Bool.true_and, Bool.and_self, Bool.or_true, Bool.true_or, Bool.false_and, Bool.and_false, Bool.false_or, Bool.or_false, Bool.not_false, Bool.not_true, if_true, if_false, ite_true, ite_false, z_up_eq, z_up_app, z_ro_eq, i1, g81, p_isIn, c2, zb_t, zb_f, p_mbits, c3m, cp', i2, cm1, p_mhas, cm2]
                exact ok_qe ok_q wi
              · simp -implicitDefEqProofs (disch := first | assumption | omega | rfl | (simp only [z_up_eq, z_up_app, ↓reduceIte, Nat.reduceEqDiff]; omega)) only [z_lit0, z_lit1, z_lit2, z_litl, iI_add, iI_sub, iI_mul, iI_neg, iI_and, iI_or, iI_xor, iI_shl, iI_shr, iI_ushr, iI_div, iI_b, iI_c, iI_i2l, lI_l2i, lI_add, lI_sub, lI_mul, lI_neg, lI_div, lI_or, lI_and, lI_shl, lI_shr, nI_iI, lg_lt0, lg_gt0, lg_eq0, i_ne0', l_ne0', iI_lt, iI_le, iI_eq, lI_lt, lI_le, lI_eq, zb_0, zb_fit, zb_fit0, zb_fit1, i_one_zero, i_w_in, z_tb0, z_tb1, z_tb2, z_tb3, z_tb4, z_tb5, z_tb6, z_tb7, z_tb8, z_tbl, z_tu0, z_tu1, z_tu2, z_i_62, z_i_63, z_i_86, z_i_88, z_l_Y, z_ui_62, z_ui_63, z_ui_86, z_ui_88, z_ul_Y, z_sz_Y, z_sw_Y, iI_nat, z_ix_t, z_at, Int.add_zero, Int.sub_zero, Int.zero_add, Int.mul_zero, ne_eq, Bool.false_eq_true, Bool.true_eq_false, reduceCtorEq, eq_self, and_true, true_and, and_false, false_and, and_self, not_true_eq_false, not_false_eq_true, decide_true, decide_false, ↓reduceIte, Int.reduceEq, Int.reduceNe, Int.reduceLT, Int.reduceLE, Int.reduceAdd, Int.reduceSub, Int.reduceMul, Int.reduceNeg, Nat.reduceAdd, Nat.reduceEqDiff, Nat.reduceBEq, ↓z_x_eq, z_g_t, z_bI_s, z_bL_s, z_bR_s, z_bV_s, Int.cast_ofNat_Int, beq_self_eq_true, Bool.and_true, Bool.true_and, Bool.and_self, Bool.or_true, Bool.true_or, Bool.false_and, Bool.and_false, Bool.false_or, Bool.or_false, Bool.not_false, Bool.not_true, if_true, if_false, ite_true, ite_false, z_up_eq, z_up_app, z_ro_eq, i1, g81, p_isIn, c2, zb_t, zb_f, p_mbits, c3m, cp', i2, cm1]
                exact ok_qe ok_q wi
      · have c3a : (i_bits x = i_bits y) = False := eq_false (fun e => c3 e.symm)
        have c3b : (i_bits y = i_bits x) = False := eq_false c3
        refine pr_same (vi (iI (-1))) h hc (fun s => ?_) (fun s => ?_)
        · rw [e_B_seated]
          cases c4 : s_small y (G 81 0)
          · rw [c4] at smy
            simp -implicitDefEqProofs (disch := first | assumption | omega | rfl | (simp only [z_up_eq, z_up_app, ↓reduceIte, Nat.reduceEqDiff]; omega)) only [z_lit0, z_lit1, z_lit2, z_litl, iI_add, iI_sub, iI_mul, iI_neg, iI_and, iI_or, iI_xor, iI_shl, iI_shr, iI_ushr, iI_div, iI_b, iI_c, iI_i2l, lI_l2i, lI_add, lI_sub, lI_mul, lI_neg, lI_div, lI_or, lI_and, lI_shl, lI_shr, nI_iI, lg_lt0, lg_gt0, lg_eq0, i_ne0', l_ne0', iI_lt, iI_le, iI_eq, lI_lt, lI_le, lI_eq, zb_0, zb_fit, zb_fit0, zb_fit1, i_one_zero, i_w_in, z_tb0, z_tb1, z_tb2, z_tb3, z_tb4, z_tb5, z_tb6, z_tb7, z_tb8, z_tbl, z_tu0, z_tu1, z_tu2, z_i_62, z_i_63, z_i_86, z_i_88, z_l_Y, z_ui_62, z_ui_63, z_ui_86, z_ui_88, z_ul_Y, z_sz_Y, z_sw_Y, iI_nat, z_ix_t, z_at, Int.add_zero, Int.sub_zero, Int.zero_add, Int.mul_zero, ne_eq, Bool.false_eq_true, Bool.true_eq_false, reduceCtorEq, eq_self, and_true, true_and, and_false, false_and, and_self, not_true_eq_false, not_false_eq_true, decide_true, decide_false, ↓reduceIte, Int.reduceEq, Int.reduceNe, Int.reduceLT, Int.reduceLE, Int.reduceAdd, Int.reduceSub, Int.reduceMul, Int.reduceNeg, Nat.reduceAdd, Nat.reduceEqDiff, Nat.reduceBEq, ↓z_x_eq, z_g_t, z_bI_s, z_bL_s, z_bR_s, z_bV_s, Int.cast_ofNat_Int, beq_self_eq_true, Bool.and_true, Bool.true_and, Bool.and_self, Bool.or_true, Bool.true_or, Bool.false_and, Bool.and_false, Bool.false_or, Bool.or_false, Bool.not_false, Bool.not_true, if_true, if_false, ite_true, ite_false, z_up_eq, z_up_app, z_ro_eq, e_Ga_bestSeats, q1, q0, smx, smy, zb_t, zb_f]
            exact ok_q
          · rw [c4] at smy
            simp -implicitDefEqProofs (disch := first | assumption | omega | rfl | (simp only [z_up_eq, z_up_app, ↓reduceIte, Nat.reduceEqDiff]; omega)) only [z_lit0, z_lit1, z_lit2, z_litl, iI_add, iI_sub, iI_mul, iI_neg, iI_and, iI_or, iI_xor, iI_shl, iI_shr, iI_ushr, iI_div, iI_b, iI_c, iI_i2l, lI_l2i, lI_add, lI_sub, lI_mul, lI_neg, lI_div, lI_or, lI_and, lI_shl, lI_shr, nI_iI, lg_lt0, lg_gt0, lg_eq0, i_ne0', l_ne0', iI_lt, iI_le, iI_eq, lI_lt, lI_le, lI_eq, zb_0, zb_fit, zb_fit0, zb_fit1, i_one_zero, i_w_in, z_tb0, z_tb1, z_tb2, z_tb3, z_tb4, z_tb5, z_tb6, z_tb7, z_tb8, z_tbl, z_tu0, z_tu1, z_tu2, z_i_62, z_i_63, z_i_86, z_i_88, z_l_Y, z_ui_62, z_ui_63, z_ui_86, z_ui_88, z_ul_Y, z_sz_Y, z_sw_Y, iI_nat, z_ix_t, z_at, Int.add_zero, Int.sub_zero, Int.zero_add, Int.mul_zero, ne_eq, Bool.false_eq_true, Bool.true_eq_false, reduceCtorEq, eq_self, and_true, true_and, and_false, false_and, and_self, not_true_eq_false, not_false_eq_true, decide_true, decide_false, ↓reduceIte, Int.reduceEq, Int.reduceNe, Int.reduceLT, Int.reduceLE, Int.reduceAdd, Int.reduceSub, Int.reduceMul, Int.reduceNeg, Nat.reduceAdd, Nat.reduceEqDiff, Nat.reduceBEq, ↓z_x_eq, z_g_t, z_bI_s, z_bL_s, z_bR_s, z_bV_s, Int.cast_ofNat_Int, beq_self_eq_true, Bool.and_true, Bool.true_and, Bool.and_self, Bool.or_true, Bool.true_or, Bool.false_and, Bool.and_false, Bool.false_or, Bool.or_false, Bool.not_false, Bool.not_true, if_true, if_false, ite_true, ite_false, z_up_eq, z_up_app, z_ro_eq, e_Ga_bestSeats, q1, q0, smx, smy, zb_t, bx, by', c3a]
            exact ok_q
        · rw [e_M_seated]
          simp -implicitDefEqProofs (disch := first | assumption | omega | rfl | (simp only [z_up_eq, z_up_app, ↓reduceIte, Nat.reduceEqDiff]; omega)) only [z_lit0, z_lit1, z_lit2, z_litl, iI_add, iI_sub, iI_mul, iI_neg, iI_and, iI_or, iI_xor, iI_shl, iI_shr, iI_ushr, iI_div, iI_b, iI_c, iI_i2l, lI_l2i, lI_add, lI_sub, lI_mul, lI_neg, lI_div, lI_or, lI_and, lI_shl, lI_shr, nI_iI, lg_lt0, lg_gt0, lg_eq0, i_ne0', l_ne0', iI_lt, iI_le, iI_eq, lI_lt, lI_le, lI_eq, zb_0, zb_fit, zb_fit0, zb_fit1, i_one_zero, i_w_in, z_tb0, z_tb1, z_tb2, z_tb3, z_tb4, z_tb5, z_tb6, z_tb7, z_tb8, z_tbl, z_tu0, z_tu1, z_tu2, z_i_62, z_i_63, z_i_86, z_i_88, z_l_Y, z_ui_62, z_ui_63, z_ui_86, z_ui_88, z_ul_Y, z_sz_Y, z_sw_Y, iI_nat, z_ix_t, z_at, Int.add_zero, Int.sub_zero, Int.zero_add, Int.mul_zero, ne_eq, Bool.false_eq_true, Bool.true_eq_false, reduceCtorEq, eq_self, and_true, true_and, and_false, false_and, and_self, not_true_eq_false, not_false_eq_true, decide_true, decide_false, ↓reduceIte, Int.reduceEq, Int.reduceNe, Int.reduceLT, Int.reduceLE, Int.reduceAdd, Int.reduceSub, Int.reduceMul, Int.reduceNeg, Nat.reduceAdd, Nat.reduceEqDiff, Nat.reduceBEq, ↓z_x_eq, z_g_t, z_bI_s, z_bL_s, z_bR_s, z_bV_s, Int.cast_ofNat_Int, beq_self_eq_true, Bool.and_true, Bool.true_and, Bool.and_self, Bool.or_true, Bool.true_or, Bool.false_and, Bool.and_false, Bool.false_or, Bool.or_false, Bool.not_false, Bool.not_true, if_true, if_false, ite_true, ite_false, z_up_eq, z_up_app, z_ro_eq, isx, zb_t, p_isIn, c2, p_mbits, c3b]
          exact ok_q
    · have c4 : s_small y (G 81 0) = false := decide_eq_false (fun q => c2 ⟨q.1, q.2.1⟩)
      rw [c4] at smy
      refine pr_same (vi (iI (-1))) h hc (fun s => ?_) (fun s => ?_)
      · rw [e_B_seated]
        simp -implicitDefEqProofs (disch := first | assumption | omega | rfl | (simp only [z_up_eq, z_up_app, ↓reduceIte, Nat.reduceEqDiff]; omega)) only [z_lit0, z_lit1, z_lit2, z_litl, iI_add, iI_sub, iI_mul, iI_neg, iI_and, iI_or, iI_xor, iI_shl, iI_shr, iI_ushr, iI_div, iI_b, iI_c, iI_i2l, lI_l2i, lI_add, lI_sub, lI_mul, lI_neg, lI_div, lI_or, lI_and, lI_shl, lI_shr, nI_iI, lg_lt0, lg_gt0, lg_eq0, i_ne0', l_ne0', iI_lt, iI_le, iI_eq, lI_lt, lI_le, lI_eq, zb_0, zb_fit, zb_fit0, zb_fit1, i_one_zero, i_w_in, z_tb0, z_tb1, z_tb2, z_tb3, z_tb4, z_tb5, z_tb6, z_tb7, z_tb8, z_tbl, z_tu0, z_tu1, z_tu2, z_i_62, z_i_63, z_i_86, z_i_88, z_l_Y, z_ui_62, z_ui_63, z_ui_86, z_ui_88, z_ul_Y, z_sz_Y, z_sw_Y, iI_nat, z_ix_t, z_at, Int.add_zero, Int.sub_zero, Int.zero_add, Int.mul_zero, ne_eq, Bool.false_eq_true, Bool.true_eq_false, reduceCtorEq, eq_self, and_true, true_and, and_false, false_and, and_self, not_true_eq_false, not_false_eq_true, decide_true, decide_false, ↓reduceIte, Int.reduceEq, Int.reduceNe, Int.reduceLT, Int.reduceLE, Int.reduceAdd, Int.reduceSub, Int.reduceMul, Int.reduceNeg, Nat.reduceAdd, Nat.reduceEqDiff, Nat.reduceBEq, ↓z_x_eq, z_g_t, z_bI_s, z_bL_s, z_bR_s, z_bV_s, Int.cast_ofNat_Int, beq_self_eq_true, Bool.and_true, Bool.true_and, Bool.and_self, Bool.or_true, Bool.true_or, Bool.false_and, Bool.and_false, Bool.false_or, Bool.or_false, Bool.not_false, Bool.not_true, if_true, if_false, ite_true, ite_false, z_up_eq, z_up_app, z_ro_eq, e_Ga_bestSeats, q1, q0, smx, smy, zb_t, zb_f]
        exact ok_q
      · rw [e_M_seated]
        simp -implicitDefEqProofs (disch := first | assumption | omega | rfl | (simp only [z_up_eq, z_up_app, ↓reduceIte, Nat.reduceEqDiff]; omega)) only [z_lit0, z_lit1, z_lit2, z_litl, iI_add, iI_sub, iI_mul, iI_neg, iI_and, iI_or, iI_xor, iI_shl, iI_shr, iI_ushr, iI_div, iI_b, iI_c, iI_i2l, lI_l2i, lI_add, lI_sub, lI_mul, lI_neg, lI_div, lI_or, lI_and, lI_shl, lI_shr, nI_iI, lg_lt0, lg_gt0, lg_eq0, i_ne0', l_ne0', iI_lt, iI_le, iI_eq, lI_lt, lI_le, lI_eq, zb_0, zb_fit, zb_fit0, zb_fit1, i_one_zero, i_w_in, z_tb0, z_tb1, z_tb2, z_tb3, z_tb4, z_tb5, z_tb6, z_tb7, z_tb8, z_tbl, z_tu0, z_tu1, z_tu2, z_i_62, z_i_63, z_i_86, z_i_88, z_l_Y, z_ui_62, z_ui_63, z_ui_86, z_ui_88, z_ul_Y, z_sz_Y, z_sw_Y, iI_nat, z_ix_t, z_at, Int.add_zero, Int.sub_zero, Int.zero_add, Int.mul_zero, ne_eq, Bool.false_eq_true, Bool.true_eq_false, reduceCtorEq, eq_self, and_true, true_and, and_false, false_and, and_self, not_true_eq_false, not_false_eq_true, decide_true, decide_false, ↓reduceIte, Int.reduceEq, Int.reduceNe, Int.reduceLT, Int.reduceLE, Int.reduceAdd, Int.reduceSub, Int.reduceMul, Int.reduceNeg, Nat.reduceAdd, Nat.reduceEqDiff, Nat.reduceBEq, ↓z_x_eq, z_g_t, z_bI_s, z_bL_s, z_bR_s, z_bV_s, Int.cast_ofNat_Int, beq_self_eq_true, Bool.and_true, Bool.true_and, Bool.and_self, Bool.or_true, Bool.true_or, Bool.false_and, Bool.and_false, Bool.false_or, Bool.or_false, Bool.not_false, Bool.not_true, if_true, if_false, ite_true, ite_false, z_up_eq, z_up_app, z_ro_eq, isx, zb_t, zb_f, p_isIn, c2]
        exact ok_q

/-! THE PURE PART, 87: the model's words -/
theorem p_wd0 {E : Nat} (hE : 5 ≤ E) (σ : ZM) : z_call E 83 [vi (iI 98), vi (iI 101), vi (iI 97), vi (iI 116)] σ = some (vl (lI (y_ww 0)), σ) := by
  obtain ⟨d, rfl⟩ : ∃ d, E = d + 5 := ⟨E - 5, by omega⟩
  simp only [e_M_w6, e_M_w5, e_M_w4, e_M_w3, e_M_w2, z_bL_s]
  refine congrArg (fun v => (some (vl v, σ) : ZR)) ?_
  decide +kernel
theorem p_wd1 {E : Nat} (hE : 5 ≤ E) (σ : ZM) : z_call E 84 [vi (iI 99), vi (iI 104), vi (iI 101), vi (iI 115), vi (iI 116)] σ = some (vl (lI (y_ww 1)), σ) := by
  obtain ⟨d, rfl⟩ : ∃ d, E = d + 5 := ⟨E - 5, by omega⟩
  simp only [e_M_w6, e_M_w5, e_M_w4, e_M_w3, e_M_w2, z_bL_s]
  refine congrArg (fun v => (some (vl v, σ) : ZR)) ?_
  decide +kernel
theorem p_wd2 {E : Nat} (hE : 5 ≤ E) (σ : ZM) : z_call E 84 [vi (iI 112), vi (iI 117), vi (iI 108), vi (iI 115), vi (iI 101)] σ = some (vl (lI (y_ww 2)), σ) := by
  obtain ⟨d, rfl⟩ : ∃ d, E = d + 5 := ⟨E - 5, by omega⟩
  simp only [e_M_w6, e_M_w5, e_M_w4, e_M_w3, e_M_w2, z_bL_s]
  refine congrArg (fun v => (some (vl v, σ) : ZR)) ?_
  decide +kernel
theorem p_wd3 {E : Nat} (hE : 5 ≤ E) (σ : ZM) : z_call E 83 [vi (iI 116), vi (iI 105), vi (iI 109), vi (iI 101)] σ = some (vl (lI (y_ww 3)), σ) := by
  obtain ⟨d, rfl⟩ : ∃ d, E = d + 5 := ⟨E - 5, by omega⟩
  simp only [e_M_w6, e_M_w5, e_M_w4, e_M_w3, e_M_w2, z_bL_s]
  refine congrArg (fun v => (some (vl v, σ) : ZR)) ?_
  decide +kernel
theorem p_wd4 {E : Nat} (hE : 5 ≤ E) (σ : ZM) : z_call E 84 [vi (iI 98), vi (iI 108), vi (iI 111), vi (iI 99), vi (iI 107)] σ = some (vl (lI (y_ww 4)), σ) := by
  obtain ⟨d, rfl⟩ : ∃ d, E = d + 5 := ⟨E - 5, by omega⟩
  simp only [e_M_w6, e_M_w5, e_M_w4, e_M_w3, e_M_w2, z_bL_s]
  refine congrArg (fun v => (some (vl v, σ) : ZR)) ?_
  decide +kernel
theorem p_wd5 {E : Nat} (hE : 5 ≤ E) (σ : ZM) : z_call E 85 [vi (iI 97), vi (iI 115), vi (iI 108), vi (iI 101), vi (iI 101), vi (iI 112)] σ = some (vl (lI (y_ww 5)), σ) := by
  obtain ⟨d, rfl⟩ : ∃ d, E = d + 5 := ⟨E - 5, by omega⟩
  simp only [e_M_w6, e_M_w5, e_M_w4, e_M_w3, e_M_w2, z_bL_s]
  refine congrArg (fun v => (some (vl v, σ) : ZR)) ?_
  decide +kernel
theorem p_wd6 {E : Nat} (hE : 5 ≤ E) (σ : ZM) : z_call E 82 [vi (iI 108), vi (iI 97), vi (iI 103)] σ = some (vl (lI (y_ww 6)), σ) := by
  obtain ⟨d, rfl⟩ : ∃ d, E = d + 5 := ⟨E - 5, by omega⟩
  simp only [e_M_w6, e_M_w5, e_M_w4, e_M_w3, e_M_w2, z_bL_s]
  refine congrArg (fun v => (some (vl v, σ) : ZR)) ?_
  decide +kernel
theorem p_wd7 {E : Nat} (hE : 5 ≤ E) (σ : ZM) : z_call E 82 [vi (iI 97), vi (iI 105), vi (iI 114)] σ = some (vl (lI (y_ww 7)), σ) := by
  obtain ⟨d, rfl⟩ : ∃ d, E = d + 5 := ⟨E - 5, by omega⟩
  simp only [e_M_w6, e_M_w5, e_M_w4, e_M_w3, e_M_w2, z_bL_s]
  refine congrArg (fun v => (some (vl v, σ) : ZR)) ?_
  decide +kernel
theorem p_wd8 {E : Nat} (hE : 5 ≤ E) (σ : ZM) : z_call E 83 [vi (iI 104), vi (iI 105), vi (iI 103), vi (iI 104)] σ = some (vl (lI (y_ww 8)), σ) := by
  obtain ⟨d, rfl⟩ : ∃ d, E = d + 5 := ⟨E - 5, by omega⟩
  simp only [e_M_w6, e_M_w5, e_M_w4, e_M_w3, e_M_w2, z_bL_s]
  refine congrArg (fun v => (some (vl v, σ) : ZR)) ?_
  decide +kernel
theorem p_wd9 {E : Nat} (hE : 5 ≤ E) (σ : ZM) : z_call E 83 [vi (iI 110), vi (iI 111), vi (iI 116), vi (iI 101)] σ = some (vl (lI (y_ww 9)), σ) := by
  obtain ⟨d, rfl⟩ : ∃ d, E = d + 5 := ⟨E - 5, by omega⟩
  simp only [e_M_w6, e_M_w5, e_M_w4, e_M_w3, e_M_w2, z_bL_s]
  refine congrArg (fun v => (some (vl v, σ) : ZR)) ?_
  decide +kernel
theorem p_wd10 {E : Nat} (hE : 5 ≤ E) (σ : ZM) : z_call E 85 [vi (iI 98), vi (iI 114), vi (iI 101), vi (iI 97), vi (iI 116), vi (iI 104)] σ = some (vl (lI (y_ww 10)), σ) := by
  obtain ⟨d, rfl⟩ : ∃ d, E = d + 5 := ⟨E - 5, by omega⟩
  simp only [e_M_w6, e_M_w5, e_M_w4, e_M_w3, e_M_w2, z_bL_s]
  refine congrArg (fun v => (some (vl v, σ) : ZR)) ?_
  decide +kernel
theorem p_wd11 {E : Nat} (hE : 5 ≤ E) (σ : ZM) : z_call E 85 [vi (iI 112), vi (iI 97), vi (iI 115), vi (iI 115), vi (iI 101), vi (iI 115)] σ = some (vl (lI (y_ww 11)), σ) := by
  obtain ⟨d, rfl⟩ : ∃ d, E = d + 5 := ⟨E - 5, by omega⟩
  simp only [e_M_w6, e_M_w5, e_M_w4, e_M_w3, e_M_w2, z_bL_s]
  refine congrArg (fun v => (some (vl v, σ) : ZR)) ?_
  decide +kernel
theorem p_wd12 {E : Nat} (hE : 5 ≤ E) (σ : ZM) : z_call E 84 [vi (iI 104), vi (iI 111), vi (iI 108), vi (iI 100), vi (iI 115)] σ = some (vl (lI (y_ww 12)), σ) := by
  obtain ⟨d, rfl⟩ : ∃ d, E = d + 5 := ⟨E - 5, by omega⟩
  simp only [e_M_w6, e_M_w5, e_M_w4, e_M_w3, e_M_w2, z_bL_s]
  refine congrArg (fun v => (some (vl v, σ) : ZR)) ?_
  decide +kernel
theorem p_wd13 {E : Nat} (hE : 5 ≤ E) (σ : ZM) : z_call E 83 [vi (iI 115), vi (iI 101), vi (iI 97), vi (iI 116)] σ = some (vl (lI (y_ww 13)), σ) := by
  obtain ⟨d, rfl⟩ : ∃ d, E = d + 5 := ⟨E - 5, by omega⟩
  simp only [e_M_w6, e_M_w5, e_M_w4, e_M_w3, e_M_w2, z_bL_s]
  refine congrArg (fun v => (some (vl v, σ) : ZR)) ?_
  decide +kernel
theorem p_wd14 {E : Nat} (hE : 5 ≤ E) (σ : ZM) : z_call E 82 [vi (iI 111), vi (iI 110), vi (iI 101)] σ = some (vl (lI (y_ww 14)), σ) := by
  obtain ⟨d, rfl⟩ : ∃ d, E = d + 5 := ⟨E - 5, by omega⟩
  simp only [e_M_w6, e_M_w5, e_M_w4, e_M_w3, e_M_w2, z_bL_s]
  refine congrArg (fun v => (some (vl v, σ) : ZR)) ?_
  decide +kernel
theorem p_wd15 {E : Nat} (hE : 5 ≤ E) (σ : ZM) : z_call E 82 [vi (iI 115), vi (iI 105), vi (iI 116)] σ = some (vl (lI (y_ww 15)), σ) := by
  obtain ⟨d, rfl⟩ : ∃ d, E = d + 5 := ⟨E - 5, by omega⟩
  simp only [e_M_w6, e_M_w5, e_M_w4, e_M_w3, e_M_w2, z_bL_s]
  refine congrArg (fun v => (some (vl v, σ) : ZR)) ?_
  decide +kernel
theorem p_wd16 {E : Nat} (hE : 5 ≤ E) (σ : ZM) : z_call E 84 [vi (iI 115), vi (iI 108), vi (iI 101), vi (iI 101), vi (iI 112)] σ = some (vl (lI (y_ww 16)), σ) := by
  obtain ⟨d, rfl⟩ : ∃ d, E = d + 5 := ⟨E - 5, by omega⟩
  simp only [e_M_w6, e_M_w5, e_M_w4, e_M_w3, e_M_w2, z_bL_s]
  refine congrArg (fun v => (some (vl v, σ) : ZR)) ?_
  decide +kernel
theorem p_wd17 {E : Nat} (hE : 5 ≤ E) (σ : ZM) : z_call E 83 [vi (iI 119), vi (iI 97), vi (iI 107), vi (iI 101)] σ = some (vl (lI (y_ww 17)), σ) := by
  obtain ⟨d, rfl⟩ : ∃ d, E = d + 5 := ⟨E - 5, by omega⟩
  simp only [e_M_w6, e_M_w5, e_M_w4, e_M_w3, e_M_w2, z_bL_s]
  refine congrArg (fun v => (some (vl v, σ) : ZR)) ?_
  decide +kernel
theorem p_wd18 {E : Nat} (hE : 5 ≤ E) (σ : ZM) : z_call E 83 [vi (iI 104), vi (iI 111), vi (iI 108), vi (iI 100)] σ = some (vl (lI (y_ww 18)), σ) := by
  obtain ⟨d, rfl⟩ : ∃ d, E = d + 5 := ⟨E - 5, by omega⟩
  simp only [e_M_w6, e_M_w5, e_M_w4, e_M_w3, e_M_w2, z_bL_s]
  refine congrArg (fun v => (some (vl v, σ) : ZR)) ?_
  decide +kernel
theorem p_wd19 {E : Nat} (hE : 5 ≤ E) (σ : ZM) : z_call E 84 [vi (iI 117), vi (iI 115), vi (iI 104), vi (iI 101), vi (iI 114)] σ = some (vl (lI (y_ww 19)), σ) := by
  obtain ⟨d, rfl⟩ : ∃ d, E = d + 5 := ⟨E - 5, by omega⟩
  simp only [e_M_w6, e_M_w5, e_M_w4, e_M_w3, e_M_w2, z_bL_s]
  refine congrArg (fun v => (some (vl v, σ) : ZR)) ?_
  decide +kernel
theorem p_wd20 {E : Nat} (hE : 5 ≤ E) (σ : ZM) : z_call E 84 [vi (iI 99), vi (iI 111), vi (iI 117), vi (iI 103), vi (iI 104)] σ = some (vl (lI (y_ww 20)), σ) := by
  obtain ⟨d, rfl⟩ : ∃ d, E = d + 5 := ⟨E - 5, by omega⟩
  simp only [e_M_w6, e_M_w5, e_M_w4, e_M_w3, e_M_w2, z_bL_s]
  refine congrArg (fun v => (some (vl v, σ) : ZR)) ?_
  decide +kernel
theorem p_wd21 {E : Nat} (hE : 5 ≤ E) (σ : ZM) : z_call E 84 [vi (iI 115), vi (iI 116), vi (iI 97), vi (iI 114), vi (iI 116)] σ = some (vl (lI (y_ww 21)), σ) := by
  obtain ⟨d, rfl⟩ : ∃ d, E = d + 5 := ⟨E - 5, by omega⟩
  simp only [e_M_w6, e_M_w5, e_M_w4, e_M_w3, e_M_w2, z_bL_s]
  refine congrArg (fun v => (some (vl v, σ) : ZR)) ?_
  decide +kernel
theorem p_wd22 {E : Nat} (hE : 5 ≤ E) (σ : ZM) : z_call E 81 [vi (iI 111), vi (iI 110)] σ = some (vl (lI (y_ww 22)), σ) := by
  obtain ⟨d, rfl⟩ : ∃ d, E = d + 5 := ⟨E - 5, by omega⟩
  simp only [e_M_w6, e_M_w5, e_M_w4, e_M_w3, e_M_w2, z_bL_s]
  refine congrArg (fun v => (some (vl v, σ) : ZR)) ?_
  decide +kernel
theorem p_wd23 {E : Nat} (hE : 5 ≤ E) (σ : ZM) : z_call E 81 [vi (iI 111), vi (iI 114)] σ = some (vl (lI (y_ww 23)), σ) := by
  obtain ⟨d, rfl⟩ : ∃ d, E = d + 5 := ⟨E - 5, by omega⟩
  simp only [e_M_w6, e_M_w5, e_M_w4, e_M_w3, e_M_w2, z_bL_s]
  refine congrArg (fun v => (some (vl v, σ) : ZR)) ?_
  decide +kernel
theorem p_wd24 {E : Nat} (hE : 5 ≤ E) (σ : ZM) : z_call E 82 [vi (iI 97), vi (iI 110), vi (iI 100)] σ = some (vl (lI (y_ww 24)), σ) := by
  obtain ⟨d, rfl⟩ : ∃ d, E = d + 5 := ⟨E - 5, by omega⟩
  simp only [e_M_w6, e_M_w5, e_M_w4, e_M_w3, e_M_w2, z_bL_s]
  refine congrArg (fun v => (some (vl v, σ) : ZR)) ?_
  decide +kernel
theorem p_wd25 {E : Nat} (hE : 5 ≤ E) (σ : ZM) : z_call E 82 [vi (iI 110), vi (iI 111), vi (iI 116)] σ = some (vl (lI (y_ww 25)), σ) := by
  obtain ⟨d, rfl⟩ : ∃ d, E = d + 5 := ⟨E - 5, by omega⟩
  simp only [e_M_w6, e_M_w5, e_M_w4, e_M_w3, e_M_w2, z_bL_s]
  refine congrArg (fun v => (some (vl v, σ) : ZR)) ?_
  decide +kernel
theorem p_wd26 {E : Nat} (hE : 5 ≤ E) (σ : ZM) : z_call E 85 [vi (iI 109), vi (iI 105), vi (iI 100), vi (iI 100), vi (iI 108), vi (iI 101)] σ = some (vl (lI (y_ww 26)), σ) := by
  obtain ⟨d, rfl⟩ : ∃ d, E = d + 5 := ⟨E - 5, by omega⟩
  simp only [e_M_w6, e_M_w5, e_M_w4, e_M_w3, e_M_w2, z_bL_s]
  refine congrArg (fun v => (some (vl v, σ) : ZR)) ?_
  decide +kernel
theorem y_ww_in : ∀ n : Nat, n < 27 → 0 ≤ y_ww n ∧ y_ww n < 281474976710656 := by decide +kernel
theorem n_wl {k : Int} (h : 0 ≤ k ∧ k < 27) : l_in (y_ww k) := by
  have := y_ww_in k.toNat (by omega)
  rw [show ((k.toNat : Nat) : Int) = k by omega] at this
  exact ⟨by omega, by omega⟩
theorem n_ttn : ∀ n : Nat, n < 45 → (0 ≤ y_tt n ∧ y_tt n ≤ 62) ∧ (y_tt n = 2 ↔ 18 ≤ n) ∧ (y_tt n = 0 ↔ n = 0) ∧ (y_tt n = 1 ↔ n = 2) ∧ (y_tt n = 43 ↔ n = 3) ∧ (y_tt n = 45 ↔ n = 4) ∧ (y_tt n = 42 ↔ n = 5) := by decide +kernel
theorem n_ttn2 : ∀ n : Nat, n < 45 → (y_tt n = 47 ↔ n = 6) ∧ (y_tt n = 37 ↔ n = 7) ∧ (y_tt n = 60 ↔ n = 8) ∧ (y_tt n = 62 ↔ n = 9) ∧ (y_tt n = 61 ↔ n = 10) ∧ (y_tt n = 35 ↔ n = 11) := by decide +kernel
theorem n_ttn3 : ∀ n : Nat, n < 45 → (y_tt n = 40 ↔ n = 12) ∧ (y_tt n = 41 ↔ n = 13) ∧ (y_tt n = 44 ↔ n = 14) ∧ (y_tt n = 59 ↔ n = 15) ∧ (y_tt n = 4 ↔ n = 16) ∧ (y_tt n = 5 ↔ n = 17) := by decide +kernel
/-- the model's token beside the class's kind -/
theorem n_tok {K v t n w : Int} (h : y_rl K v t n w) : (0 ≤ t ∧ t ≤ 62) ∧ ((t = 2) = (18 ≤ K ∨ (K = 1 ∧ t = 2))) ∧ ((t = 0) = (K = 0)) ∧ ((t = 1) = (K = 2)) ∧ ((t = 43) = (K = 3)) ∧ ((t = 45) = (K = 4)) ∧ ((t = 42) = (K = 5)) ∧ ((t = 47) = (K = 6)) ∧ ((t = 37) = (K = 7)) ∧ ((t = 60) = (K = 8)) ∧ ((t = 62) = (K = 9)) ∧ ((t = 61) = (K = 10)) ∧ ((t = 35) = (K = 11)) ∧ ((t = 40) = (K = 12)) ∧ ((t = 41) = (K = 13)) ∧ ((t = 44) = (K = 14)) ∧ ((t = 59) = (K = 15)) ∧ ((t = 4) = (K = 16)) ∧ ((t = 5) = (K = 17)) := by
  obtain ⟨h1, h2, -, -⟩ := h
  have q := n_ttn K.toNat (by omega)
  have q2 := n_ttn2 K.toNat (by omega)
  have q3 := n_ttn3 K.toNat (by omega)
  rw [show ((K.toNat : Nat) : Int) = K by omega] at q q2 q3
  simp only [eq_iff_iff]
  rcases h2 with h2 | ⟨h2, h3⟩
  · rw [h2]; omega
  · rw [h2, h3]; omega
theorem p_isWord {E : Nat} (hE : 1 ≤ E) (T : ZT) (G : ZG) (s : ZG × ZG) {K v k : Int} (h : y_rl K v (G 80 9) (G 80 10) (s.2 80 11)) (hk : 0 ≤ k ∧ k < 27) : z_call E 86 [vr 80, vl (lI (y_ww k))] (z_Y T G s) = some (vi (iI (zb (decide (K = 18 + k)))), z_Y T G s) := by
  obtain ⟨d, rfl⟩ : ∃ d, E = d + 1 := ⟨E - 1, by omega⟩
  have tk := n_tok h
  have t0 := tk.1
  have wl := n_wl hk
  rw [e_M_isWord]
  by_cases c : G 80 9 = 2
  · have c' : (G 80 9 = 2) = True := eq_true c
    have wi := (h.2.2.2 c).1
    have iff := (h.2.2.2 c).2 k hk.1 hk.2
    by_cases c2 : K = 18 + k
    · have c2' : (s.2 80 11 = y_ww k) = True := eq_true (iff.mpr c2)
      rw [decide_eq_true c2]
      simp -implicitDefEqProofs (disch := first | assumption | omega | rfl | (simp only [z_up_eq, z_up_app, ↓reduceIte, Nat.reduceEqDiff]; omega)) only [z_lit0, z_lit1, z_lit2, z_litl, iI_add, iI_sub, iI_mul, iI_neg, iI_and, iI_or, iI_xor, iI_shl, iI_shr, iI_ushr, iI_div, iI_b, iI_c, iI_i2l, lI_l2i, lI_add, lI_sub, lI_mul, lI_neg, lI_div, lI_or, lI_and, lI_shl, lI_shr, nI_iI, lg_lt0, lg_gt0, lg_eq0, i_ne0', l_ne0', iI_lt, iI_le, iI_eq, lI_lt, lI_le, lI_eq, zb_0, zb_fit, zb_fit0, zb_fit1, i_one_zero, i_w_in, z_tb0, z_tb1, z_tb2, z_tb3, z_tb4, z_tb5, z_tb6, z_tb7, z_tb8, z_tbl, z_tu0, z_tu1, z_tu2, z_i_62, z_i_63, z_i_86, z_i_88, z_l_Y, z_ui_62, z_ui_63, z_ui_86, z_ui_88, z_ul_Y, z_sz_Y, z_sw_Y, iI_nat, z_ix_t, z_at, Int.add_zero, Int.sub_zero, Int.zero_add, Int.mul_zero, ne_eq, Bool.false_eq_true, Bool.true_eq_false, reduceCtorEq, eq_self, and_true, true_and, and_false, false_and, and_self, not_true_eq_false, not_false_eq_true, decide_true, decide_false, ↓reduceIte, Int.reduceEq, Int.reduceNe, Int.reduceLT, Int.reduceLE, Int.reduceAdd, Int.reduceSub, Int.reduceMul, Int.reduceNeg, Nat.reduceAdd, Nat.reduceEqDiff, Nat.reduceBEq, ↓z_x_eq, z_g_t, z_bI_s, z_bL_s, z_bR_s, z_bV_s, Int.cast_ofNat_Int, beq_self_eq_true, Bool.and_true, Bool.true_and, Bool.and_self, Bool.or_true, Bool.true_or, Bool.false_and, Bool.and_false, Bool.false_or, Bool.or_false, Bool.not_false, Bool.not_true, if_true, if_false, ite_true, ite_false, z_up_eq, z_up_app, z_ro_eq, c', c2']
      rfl
    · have c2' : (s.2 80 11 = y_ww k) = False := eq_false (fun z => c2 (iff.mp z))
      rw [decide_eq_false c2]
      simp -implicitDefEqProofs (disch := first | assumption | omega | rfl | (simp only [z_up_eq, z_up_app, ↓reduceIte, Nat.reduceEqDiff]; omega)) only [z_lit0, z_lit1, z_lit2, z_litl, iI_add, iI_sub, iI_mul, iI_neg, iI_and, iI_or, iI_xor, iI_shl, iI_shr, iI_ushr, iI_div, iI_b, iI_c, iI_i2l, lI_l2i, lI_add, lI_sub, lI_mul, lI_neg, lI_div, lI_or, lI_and, lI_shl, lI_shr, nI_iI, lg_lt0, lg_gt0, lg_eq0, i_ne0', l_ne0', iI_lt, iI_le, iI_eq, lI_lt, lI_le, lI_eq, zb_0, zb_fit, zb_fit0, zb_fit1, i_one_zero, i_w_in, z_tb0, z_tb1, z_tb2, z_tb3, z_tb4, z_tb5, z_tb6, z_tb7, z_tb8, z_tbl, z_tu0, z_tu1, z_tu2, z_i_62, z_i_63, z_i_86, z_i_88, z_l_Y, z_ui_62, z_ui_63, z_ui_86, z_ui_88, z_ul_Y, z_sz_Y, z_sw_Y, iI_nat, z_ix_t, z_at, Int.add_zero, Int.sub_zero, Int.zero_add, Int.mul_zero, ne_eq, Bool.false_eq_true, Bool.true_eq_false, reduceCtorEq, eq_self, and_true, true_and, and_false, false_and, and_self, not_true_eq_false, not_false_eq_true, decide_true, decide_false, ↓reduceIte, Int.reduceEq, Int.reduceNe, Int.reduceLT, Int.reduceLE, Int.reduceAdd, Int.reduceSub, Int.reduceMul, Int.reduceNeg, Nat.reduceAdd, Nat.reduceEqDiff, Nat.reduceBEq, ↓z_x_eq, z_g_t, z_bI_s, z_bL_s, z_bR_s, z_bV_s, Int.cast_ofNat_Int, beq_self_eq_true, Bool.and_true, Bool.true_and, Bool.and_self, Bool.or_true, Bool.true_or, Bool.false_and, Bool.and_false, Bool.false_or, Bool.or_false, Bool.not_false, Bool.not_true, if_true, if_false, ite_true, ite_false, z_up_eq, z_up_app, z_ro_eq, c', c2']
      rfl
  · have c' : (G 80 9 = 2) = False := eq_false c
    have : ¬ 18 ≤ K := fun z => c (by rw [tk.2.1]; exact Or.inl z)
    rw [decide_eq_false (by omega)]
    simp -implicitDefEqProofs (disch := first | assumption | omega | rfl | (simp only [z_up_eq, z_up_app, ↓reduceIte, Nat.reduceEqDiff]; omega)) only [z_lit0, z_lit1, z_lit2, z_litl, iI_add, iI_sub, iI_mul, iI_neg, iI_and, iI_or, iI_xor, iI_shl, iI_shr, iI_ushr, iI_div, iI_b, iI_c, iI_i2l, lI_l2i, lI_add, lI_sub, lI_mul, lI_neg, lI_div, lI_or, lI_and, lI_shl, lI_shr, nI_iI, lg_lt0, lg_gt0, lg_eq0, i_ne0', l_ne0', iI_lt, iI_le, iI_eq, lI_lt, lI_le, lI_eq, zb_0, zb_fit, zb_fit0, zb_fit1, i_one_zero, i_w_in, z_tb0, z_tb1, z_tb2, z_tb3, z_tb4, z_tb5, z_tb6, z_tb7, z_tb8, z_tbl, z_tu0, z_tu1, z_tu2, z_i_62, z_i_63, z_i_86, z_i_88, z_l_Y, z_ui_62, z_ui_63, z_ui_86, z_ui_88, z_ul_Y, z_sz_Y, z_sw_Y, iI_nat, z_ix_t, z_at, Int.add_zero, Int.sub_zero, Int.zero_add, Int.mul_zero, ne_eq, Bool.false_eq_true, Bool.true_eq_false, reduceCtorEq, eq_self, and_true, true_and, and_false, false_and, and_self, not_true_eq_false, not_false_eq_true, decide_true, decide_false, ↓reduceIte, Int.reduceEq, Int.reduceNe, Int.reduceLT, Int.reduceLE, Int.reduceAdd, Int.reduceSub, Int.reduceMul, Int.reduceNeg, Nat.reduceAdd, Nat.reduceEqDiff, Nat.reduceBEq, ↓z_x_eq, z_g_t, z_bI_s, z_bL_s, z_bR_s, z_bV_s, Int.cast_ofNat_Int, beq_self_eq_true, Bool.and_true, Bool.true_and, Bool.and_self, Bool.or_true, Bool.true_or, Bool.false_and, Bool.and_false, Bool.false_or, Bool.or_false, Bool.not_false, Bool.not_true, if_true, if_false, ite_true, ite_false, z_up_eq, z_up_app, z_ro_eq, c']
    rfl
/-- one name of nameOf's row -/
def n_if (cl : Nat → List ZV → ZM → ZR) (n : Nat) (l : List ZV) (k : Int32) (f : ZM → ZR) : ZM → ZR := fun σ => z_g (z_kd σ 80 == 12) (z_bL (cl n l σ) (fun v τ => if lg_cmp (z_l σ 80 11) v = 0 then some (vi k, τ) else f τ))
def n_is (cl : Nat → List ZV → ZM → ZR) (n : Nat) (l : List ZV) (k : Int32) (f : ZM → ZR) : ZM → ZR := fun σ => z_bL (cl n l σ) (fun v τ => z_g (z_kd τ 80 == 12) (z_bI (cl 86 [vr 80, vl v] τ) (fun b ρ => if b = 0 then f ρ else some (vi k, ρ))))
def n_no : ZM → ZR := fun σ => some (vi (-1 : Int32), σ)
theorem n_if_Y {T : ZT} {G : ZG} {s : ZG × ZG} {cl : Nat → List ZV → ZM → ZR} {n : Nat} {l : List ZV} {k : Int32} {f : ZM → ZR} {K v y : Int} (h : y_rl K v (G 80 9) (G 80 10) (s.2 80 11)) (h2 : G 80 9 = 2) (hy : 0 ≤ y ∧ y < 27) (hw : ∀ σ, cl n l σ = some (vl (lI (y_ww y)), σ)) : n_if cl n l k f (z_Y T G s) = if K = 18 + y then some (vi k, z_Y T G s) else f (z_Y T G s) := by
  have wl := n_wl hy
  have wi := (h.2.2.2 h2).1
  have iff := (h.2.2.2 h2).2 y hy.1 hy.2
  unfold n_if
  by_cases c : K = 18 + y
  · have c' : (s.2 80 11 = y_ww y) = True := eq_true (iff.mpr c)
    rw [if_pos c]
    simp -implicitDefEqProofs (disch := first | assumption | omega | rfl | (simp only [z_up_eq, z_up_app, ↓reduceIte, Nat.reduceEqDiff]; omega)) only [z_lit0, z_lit1, z_lit2, z_litl, iI_add, iI_sub, iI_mul, iI_neg, iI_and, iI_or, iI_xor, iI_shl, iI_shr, iI_ushr, iI_div, iI_b, iI_c, iI_i2l, lI_l2i, lI_add, lI_sub, lI_mul, lI_neg, lI_div, lI_or, lI_and, lI_shl, lI_shr, nI_iI, lg_lt0, lg_gt0, lg_eq0, i_ne0', l_ne0', iI_lt, iI_le, iI_eq, lI_lt, lI_le, lI_eq, zb_0, zb_fit, zb_fit0, zb_fit1, i_one_zero, i_w_in, z_tb0, z_tb1, z_tb2, z_tb3, z_tb4, z_tb5, z_tb6, z_tb7, z_tb8, z_tbl, z_tu0, z_tu1, z_tu2, z_i_62, z_i_63, z_i_86, z_i_88, z_l_Y, z_ui_62, z_ui_63, z_ui_86, z_ui_88, z_ul_Y, z_sz_Y, z_sw_Y, iI_nat, z_ix_t, z_at, Int.add_zero, Int.sub_zero, Int.zero_add, Int.mul_zero, ne_eq, Bool.false_eq_true, Bool.true_eq_false, reduceCtorEq, eq_self, and_true, true_and, and_false, false_and, and_self, not_true_eq_false, not_false_eq_true, decide_true, decide_false, ↓reduceIte, Int.reduceEq, Int.reduceNe, Int.reduceLT, Int.reduceLE, Int.reduceAdd, Int.reduceSub, Int.reduceMul, Int.reduceNeg, Nat.reduceAdd, Nat.reduceEqDiff, Nat.reduceBEq, ↓z_x_eq, z_g_t, z_bI_s, z_bL_s, z_bR_s, z_bV_s, Int.cast_ofNat_Int, beq_self_eq_true, Bool.and_true, Bool.true_and, Bool.and_self, Bool.or_true, Bool.true_or, Bool.false_and, Bool.and_false, Bool.false_or, Bool.or_false, Bool.not_false, Bool.not_true, if_true, if_false, ite_true, ite_false, z_up_eq, z_up_app, z_ro_eq, hw, c']
  · have c' : (s.2 80 11 = y_ww y) = False := eq_false (fun z => c (iff.mp z))
    rw [if_neg c]
    simp -implicitDefEqProofs (disch := first | assumption | omega | rfl | (simp only [z_up_eq, z_up_app, ↓reduceIte, Nat.reduceEqDiff]; omega)) only [z_lit0, z_lit1, z_lit2, z_litl, iI_add, iI_sub, iI_mul, iI_neg, iI_and, iI_or, iI_xor, iI_shl, iI_shr, iI_ushr, iI_div, iI_b, iI_c, iI_i2l, lI_l2i, lI_add, lI_sub, lI_mul, lI_neg, lI_div, lI_or, lI_and, lI_shl, lI_shr, nI_iI, lg_lt0, lg_gt0, lg_eq0, i_ne0', l_ne0', iI_lt, iI_le, iI_eq, lI_lt, lI_le, lI_eq, zb_0, zb_fit, zb_fit0, zb_fit1, i_one_zero, i_w_in, z_tb0, z_tb1, z_tb2, z_tb3, z_tb4, z_tb5, z_tb6, z_tb7, z_tb8, z_tbl, z_tu0, z_tu1, z_tu2, z_i_62, z_i_63, z_i_86, z_i_88, z_l_Y, z_ui_62, z_ui_63, z_ui_86, z_ui_88, z_ul_Y, z_sz_Y, z_sw_Y, iI_nat, z_ix_t, z_at, Int.add_zero, Int.sub_zero, Int.zero_add, Int.mul_zero, ne_eq, Bool.false_eq_true, Bool.true_eq_false, reduceCtorEq, eq_self, and_true, true_and, and_false, false_and, and_self, not_true_eq_false, not_false_eq_true, decide_true, decide_false, ↓reduceIte, Int.reduceEq, Int.reduceNe, Int.reduceLT, Int.reduceLE, Int.reduceAdd, Int.reduceSub, Int.reduceMul, Int.reduceNeg, Nat.reduceAdd, Nat.reduceEqDiff, Nat.reduceBEq, ↓z_x_eq, z_g_t, z_bI_s, z_bL_s, z_bR_s, z_bV_s, Int.cast_ofNat_Int, beq_self_eq_true, Bool.and_true, Bool.true_and, Bool.and_self, Bool.or_true, Bool.true_or, Bool.false_and, Bool.and_false, Bool.false_or, Bool.or_false, Bool.not_false, Bool.not_true, if_true, if_false, ite_true, ite_false, z_up_eq, z_up_app, z_ro_eq, hw, c']
theorem n_is_Y {T : ZT} {G : ZG} {s : ZG × ZG} {E n : Nat} (hE : 1 ≤ E) {l : List ZV} {k : Int32} {f : ZM → ZR} {K v y : Int} (h : y_rl K v (G 80 9) (G 80 10) (s.2 80 11)) (hy : 0 ≤ y ∧ y < 27) (hw : ∀ σ, z_call E n l σ = some (vl (lI (y_ww y)), σ)) : n_is (z_call E) n l k f (z_Y T G s) = if K = 18 + y then some (vi k, z_Y T G s) else f (z_Y T G s) := by
  have w := p_isWord hE T G s h hy
  unfold n_is
  by_cases c : K = 18 + y
  · rw [decide_eq_true c] at w
    rw [if_pos c]
    simp -implicitDefEqProofs (disch := first | assumption | omega | rfl | (simp only [z_up_eq, z_up_app, ↓reduceIte, Nat.reduceEqDiff]; omega)) only [z_lit0, z_lit1, z_lit2, z_litl, iI_add, iI_sub, iI_mul, iI_neg, iI_and, iI_or, iI_xor, iI_shl, iI_shr, iI_ushr, iI_div, iI_b, iI_c, iI_i2l, lI_l2i, lI_add, lI_sub, lI_mul, lI_neg, lI_div, lI_or, lI_and, lI_shl, lI_shr, nI_iI, lg_lt0, lg_gt0, lg_eq0, i_ne0', l_ne0', iI_lt, iI_le, iI_eq, lI_lt, lI_le, lI_eq, zb_0, zb_fit, zb_fit0, zb_fit1, i_one_zero, i_w_in, z_tb0, z_tb1, z_tb2, z_tb3, z_tb4, z_tb5, z_tb6, z_tb7, z_tb8, z_tbl, z_tu0, z_tu1, z_tu2, z_i_62, z_i_63, z_i_86, z_i_88, z_l_Y, z_ui_62, z_ui_63, z_ui_86, z_ui_88, z_ul_Y, z_sz_Y, z_sw_Y, iI_nat, z_ix_t, z_at, Int.add_zero, Int.sub_zero, Int.zero_add, Int.mul_zero, ne_eq, Bool.false_eq_true, Bool.true_eq_false, reduceCtorEq, eq_self, and_true, true_and, and_false, false_and, and_self, not_true_eq_false, not_false_eq_true, decide_true, decide_false, ↓reduceIte, Int.reduceEq, Int.reduceNe, Int.reduceLT, Int.reduceLE, Int.reduceAdd, Int.reduceSub, Int.reduceMul, Int.reduceNeg, Nat.reduceAdd, Nat.reduceEqDiff, Nat.reduceBEq, ↓z_x_eq, z_g_t, z_bI_s, z_bL_s, z_bR_s, z_bV_s, Int.cast_ofNat_Int, beq_self_eq_true, Bool.and_true, Bool.true_and, Bool.and_self, Bool.or_true, Bool.true_or, Bool.false_and, Bool.and_false, Bool.false_or, Bool.or_false, Bool.not_false, Bool.not_true, if_true, if_false, ite_true, ite_false, z_up_eq, z_up_app, z_ro_eq, hw, w, zb_t]
  · rw [decide_eq_false c] at w
    rw [if_neg c]
    simp -implicitDefEqProofs (disch := first | assumption | omega | rfl | (simp only [z_up_eq, z_up_app, ↓reduceIte, Nat.reduceEqDiff]; omega)) only [z_lit0, z_lit1, z_lit2, z_litl, iI_add, iI_sub, iI_mul, iI_neg, iI_and, iI_or, iI_xor, iI_shl, iI_shr, iI_ushr, iI_div, iI_b, iI_c, iI_i2l, lI_l2i, lI_add, lI_sub, lI_mul, lI_neg, lI_div, lI_or, lI_and, lI_shl, lI_shr, nI_iI, lg_lt0, lg_gt0, lg_eq0, i_ne0', l_ne0', iI_lt, iI_le, iI_eq, lI_lt, lI_le, lI_eq, zb_0, zb_fit, zb_fit0, zb_fit1, i_one_zero, i_w_in, z_tb0, z_tb1, z_tb2, z_tb3, z_tb4, z_tb5, z_tb6, z_tb7, z_tb8, z_tbl, z_tu0, z_tu1, z_tu2, z_i_62, z_i_63, z_i_86, z_i_88, z_l_Y, z_ui_62, z_ui_63, z_ui_86, z_ui_88, z_ul_Y, z_sz_Y, z_sw_Y, iI_nat, z_ix_t, z_at, Int.add_zero, Int.sub_zero, Int.zero_add, Int.mul_zero, ne_eq, Bool.false_eq_true, Bool.true_eq_false, reduceCtorEq, eq_self, and_true, true_and, and_false, false_and, and_self, not_true_eq_false, not_false_eq_true, decide_true, decide_false, ↓reduceIte, Int.reduceEq, Int.reduceNe, Int.reduceLT, Int.reduceLE, Int.reduceAdd, Int.reduceSub, Int.reduceMul, Int.reduceNeg, Nat.reduceAdd, Nat.reduceEqDiff, Nat.reduceBEq, ↓z_x_eq, z_g_t, z_bI_s, z_bL_s, z_bR_s, z_bV_s, Int.cast_ofNat_Int, beq_self_eq_true, Bool.and_true, Bool.true_and, Bool.and_self, Bool.or_true, Bool.true_or, Bool.false_and, Bool.and_false, Bool.false_or, Bool.or_false, Bool.not_false, Bool.not_true, if_true, if_false, ite_true, ite_false, z_up_eq, z_up_app, z_ro_eq, hw, w, zb_f]
theorem e_nameOf (d : Nat) (σ : ZM) : z_call (d + 1) 98 [vr 80] σ = z_g (z_kd σ 80 == 12) (if z_i σ 80 9 = (2 : Int32) then n_if (z_call d) 83 [vi (98 : Int32), vi (101 : Int32), vi (97 : Int32), vi (116 : Int32)] 0 (n_if (z_call d) 84 [vi (99 : Int32), vi (104 : Int32), vi (101 : Int32), vi (115 : Int32), vi (116 : Int32)] 1 (n_if (z_call d) 84 [vi (112 : Int32), vi (117 : Int32), vi (108 : Int32), vi (115 : Int32), vi (101 : Int32)] 2 (n_if (z_call d) 83 [vi (116 : Int32), vi (105 : Int32), vi (109 : Int32), vi (101 : Int32)] 3 (n_if (z_call d) 84 [vi (98 : Int32), vi (108 : Int32), vi (111 : Int32), vi (99 : Int32), vi (107 : Int32)] 4 (n_if (z_call d) 85 [vi (97 : Int32), vi (115 : Int32), vi (108 : Int32), vi (101 : Int32), vi (101 : Int32), vi (112 : Int32)] 5 (n_if (z_call d) 82 [vi (108 : Int32), vi (97 : Int32), vi (103 : Int32)] 6 (n_if (z_call d) 82 [vi (97 : Int32), vi (105 : Int32), vi (114 : Int32)] 7 (n_if (z_call d) 83 [vi (104 : Int32), vi (105 : Int32), vi (103 : Int32), vi (104 : Int32)] 8 (n_if (z_call d) 83 [vi (110 : Int32), vi (111 : Int32), vi (116 : Int32), vi (101 : Int32)] 9 (n_no)))))))))) σ else some (vi (-1 : Int32), σ)) := e_M_nameOf d 80 σ
theorem e_sortOf (d : Nat) (σ : ZM) : z_call (d + 1) 87 [vr 80] σ = n_is (z_call d) 85 [vi (98 : Int32), vi (114 : Int32), vi (101 : Int32), vi (97 : Int32), vi (116 : Int32), vi (104 : Int32)] 0 (n_is (z_call d) 85 [vi (112 : Int32), vi (97 : Int32), vi (115 : Int32), vi (115 : Int32), vi (101 : Int32), vi (115 : Int32)] 1 (n_is (z_call d) 84 [vi (104 : Int32), vi (111 : Int32), vi (108 : Int32), vi (100 : Int32), vi (115 : Int32)] 2 (n_is (z_call d) 83 [vi (115 : Int32), vi (101 : Int32), vi (97 : Int32), vi (116 : Int32)] 3 (n_is (z_call d) 82 [vi (111 : Int32), vi (110 : Int32), vi (101 : Int32)] 4 (n_is (z_call d) 83 [vi (110 : Int32), vi (111 : Int32), vi (116 : Int32), vi (101 : Int32)] 5 (n_is (z_call d) 82 [vi (115 : Int32), vi (105 : Int32), vi (116 : Int32)] 6 (n_is (z_call d) 84 [vi (115 : Int32), vi (108 : Int32), vi (101 : Int32), vi (101 : Int32), vi (112 : Int32)] 7 (n_is (z_call d) 83 [vi (119 : Int32), vi (97 : Int32), vi (107 : Int32), vi (101 : Int32)] 8 (n_is (z_call d) 83 [vi (104 : Int32), vi (111 : Int32), vi (108 : Int32), vi (100 : Int32)] 9 (n_is (z_call d) 84 [vi (117 : Int32), vi (115 : Int32), vi (104 : Int32), vi (101 : Int32), vi (114 : Int32)] 10 (n_is (z_call d) 84 [vi (99 : Int32), vi (111 : Int32), vi (117 : Int32), vi (103 : Int32), vi (104 : Int32)] 11 (n_is (z_call d) 83 [vi (98 : Int32), vi (101 : Int32), vi (97 : Int32), vi (116 : Int32)] 12 (n_no))))))))))))) σ := e_M_sortOf d 80 σ
def n_nm (K : Int) : Int := if 18 ≤ K ∧ K ≤ 27 then K - 18 else -1
theorem p_nameOf {E : Nat} (hE : 6 ≤ E) (T : ZT) (G : ZG) (s : ZG × ZG) {K v : Int} (h : y_rl K v (G 80 9) (G 80 10) (s.2 80 11)) : z_call E 98 [vr 80] (z_Y T G s) = some (vi (iI (n_nm K)), z_Y T G s) := by
  obtain ⟨d, rfl⟩ : ∃ d, E = d + 1 := ⟨E - 1, by omega⟩
  have tk := n_tok h
  have t0 := tk.1
  rw [e_nameOf]
  unfold n_nm
  by_cases c : G 80 9 = 2
  · have c' : (G 80 9 = 2) = True := eq_true c
    simp -implicitDefEqProofs (disch := first | assumption | omega | rfl | (simp only [z_up_eq, z_up_app, ↓reduceIte, Nat.reduceEqDiff]; omega)) only [z_lit0, z_lit1, z_lit2, z_litl, iI_add, iI_sub, iI_mul, iI_neg, iI_and, iI_or, iI_xor, iI_shl, iI_shr, iI_ushr, iI_div, iI_b, iI_c, iI_i2l, lI_l2i, lI_add, lI_sub, lI_mul, lI_neg, lI_div, lI_or, lI_and, lI_shl, lI_shr, nI_iI, lg_lt0, lg_gt0, lg_eq0, i_ne0', l_ne0', iI_lt, iI_le, iI_eq, lI_lt, lI_le, lI_eq, zb_0, zb_fit, zb_fit0, zb_fit1, i_one_zero, i_w_in, z_tb0, z_tb1, z_tb2, z_tb3, z_tb4, z_tb5, z_tb6, z_tb7, z_tb8, z_tbl, z_tu0, z_tu1, z_tu2, z_i_62, z_i_63, z_i_86, z_i_88, z_l_Y, z_ui_62, z_ui_63, z_ui_86, z_ui_88, z_ul_Y, z_sz_Y, z_sw_Y, iI_nat, z_ix_t, z_at, Int.add_zero, Int.sub_zero, Int.zero_add, Int.mul_zero, ne_eq, Bool.false_eq_true, Bool.true_eq_false, reduceCtorEq, eq_self, and_true, true_and, and_false, false_and, and_self, not_true_eq_false, not_false_eq_true, decide_true, decide_false, ↓reduceIte, Int.reduceEq, Int.reduceNe, Int.reduceLT, Int.reduceLE, Int.reduceAdd, Int.reduceSub, Int.reduceMul, Int.reduceNeg, Nat.reduceAdd, Nat.reduceEqDiff, Nat.reduceBEq, ↓z_x_eq, z_g_t, z_bI_s, z_bL_s, z_bR_s, z_bV_s, Int.cast_ofNat_Int, beq_self_eq_true, Bool.and_true, Bool.true_and, Bool.and_self, Bool.or_true, Bool.true_or, Bool.false_and, Bool.and_false, Bool.false_or, Bool.or_false, Bool.not_false, Bool.not_true, if_true, if_false, ite_true, ite_false, z_up_eq, z_up_app, z_ro_eq, c']
    rw [n_if_Y h c (y := 0) (by omega) (p_wd0 (by omega))]
    rw [n_if_Y h c (y := 1) (by omega) (p_wd1 (by omega))]
    rw [n_if_Y h c (y := 2) (by omega) (p_wd2 (by omega))]
    rw [n_if_Y h c (y := 3) (by omega) (p_wd3 (by omega))]
    rw [n_if_Y h c (y := 4) (by omega) (p_wd4 (by omega))]
    rw [n_if_Y h c (y := 5) (by omega) (p_wd5 (by omega))]
    rw [n_if_Y h c (y := 6) (by omega) (p_wd6 (by omega))]
    rw [n_if_Y h c (y := 7) (by omega) (p_wd7 (by omega))]
    rw [n_if_Y h c (y := 8) (by omega) (p_wd8 (by omega))]
    rw [n_if_Y h c (y := 9) (by omega) (p_wd9 (by omega))]
    show _ = _
    have b : ∀ x : Int, (18 ≤ K ∧ K ≤ 27) → K = 18 + x → (if 18 ≤ K ∧ K ≤ 27 then K - 18 else -1) = x := fun x a e => by rw [if_pos a]; omega
    by_cases k0 : K = 18 + 0
    · rw [if_pos k0, b 0 (by omega) k0]
    rw [if_neg k0]
    by_cases k1 : K = 18 + 1
    · rw [if_pos k1, b 1 (by omega) k1]
    rw [if_neg k1]
    by_cases k2 : K = 18 + 2
    · rw [if_pos k2, b 2 (by omega) k2]
    rw [if_neg k2]
    by_cases k3 : K = 18 + 3
    · rw [if_pos k3, b 3 (by omega) k3]
    rw [if_neg k3]
    by_cases k4 : K = 18 + 4
    · rw [if_pos k4, b 4 (by omega) k4]
    rw [if_neg k4]
    by_cases k5 : K = 18 + 5
    · rw [if_pos k5, b 5 (by omega) k5]
    rw [if_neg k5]
    by_cases k6 : K = 18 + 6
    · rw [if_pos k6, b 6 (by omega) k6]
    rw [if_neg k6]
    by_cases k7 : K = 18 + 7
    · rw [if_pos k7, b 7 (by omega) k7]
    rw [if_neg k7]
    by_cases k8 : K = 18 + 8
    · rw [if_pos k8, b 8 (by omega) k8]
    rw [if_neg k8]
    by_cases k9 : K = 18 + 9
    · rw [if_pos k9, b 9 (by omega) k9]
    rw [if_neg k9]
    rw [if_neg (by omega)]; rfl
  · have c' : (G 80 9 = 2) = False := eq_false c
    have : ¬ 18 ≤ K := fun z => c (by rw [tk.2.1]; exact Or.inl z)
    rw [show (if 18 ≤ K ∧ K ≤ 27 then K - 18 else -1) = (-1 : Int) from if_neg (by omega)]
    simp -implicitDefEqProofs (disch := first | assumption | omega | rfl | (simp only [z_up_eq, z_up_app, ↓reduceIte, Nat.reduceEqDiff]; omega)) only [z_lit0, z_lit1, z_lit2, z_litl, iI_add, iI_sub, iI_mul, iI_neg, iI_and, iI_or, iI_xor, iI_shl, iI_shr, iI_ushr, iI_div, iI_b, iI_c, iI_i2l, lI_l2i, lI_add, lI_sub, lI_mul, lI_neg, lI_div, lI_or, lI_and, lI_shl, lI_shr, nI_iI, lg_lt0, lg_gt0, lg_eq0, i_ne0', l_ne0', iI_lt, iI_le, iI_eq, lI_lt, lI_le, lI_eq, zb_0, zb_fit, zb_fit0, zb_fit1, i_one_zero, i_w_in, z_tb0, z_tb1, z_tb2, z_tb3, z_tb4, z_tb5, z_tb6, z_tb7, z_tb8, z_tbl, z_tu0, z_tu1, z_tu2, z_i_62, z_i_63, z_i_86, z_i_88, z_l_Y, z_ui_62, z_ui_63, z_ui_86, z_ui_88, z_ul_Y, z_sz_Y, z_sw_Y, iI_nat, z_ix_t, z_at, Int.add_zero, Int.sub_zero, Int.zero_add, Int.mul_zero, ne_eq, Bool.false_eq_true, Bool.true_eq_false, reduceCtorEq, eq_self, and_true, true_and, and_false, false_and, and_self, not_true_eq_false, not_false_eq_true, decide_true, decide_false, ↓reduceIte, Int.reduceEq, Int.reduceNe, Int.reduceLT, Int.reduceLE, Int.reduceAdd, Int.reduceSub, Int.reduceMul, Int.reduceNeg, Nat.reduceAdd, Nat.reduceEqDiff, Nat.reduceBEq, ↓z_x_eq, z_g_t, z_bI_s, z_bL_s, z_bR_s, z_bV_s, Int.cast_ofNat_Int, beq_self_eq_true, Bool.and_true, Bool.true_and, Bool.and_self, Bool.or_true, Bool.true_or, Bool.false_and, Bool.and_false, Bool.false_or, Bool.or_false, Bool.not_false, Bool.not_true, if_true, if_false, ite_true, ite_false, z_up_eq, z_up_app, z_ro_eq, c']
def n_so (K : Int) : Int := if 28 ≤ K ∧ K ≤ 32 then K - 28 else if K = 27 then 5 else if 33 ≤ K ∧ K ≤ 38 then K - 27 else if K = 18 then 12 else -1
theorem n_so_at {K x : Int} (h : (28 ≤ K ∧ K ≤ 32 ∧ x = K - 28) ∨ (K = 27 ∧ x = 5) ∨ (33 ≤ K ∧ K ≤ 38 ∧ x = K - 27) ∨ (K = 18 ∧ x = 12)) : n_so K = x := by
  unfold n_so
  repeat' split
  all_goals omega
theorem p_sortOf {E : Nat} (hE : 6 ≤ E) (T : ZT) (G : ZG) (s : ZG × ZG) {K v : Int} (h : y_rl K v (G 80 9) (G 80 10) (s.2 80 11)) : z_call E 87 [vr 80] (z_Y T G s) = some (vi (iI (n_so K)), z_Y T G s) := by
  obtain ⟨d, rfl⟩ : ∃ d, E = d + 1 := ⟨E - 1, by omega⟩
  rw [e_sortOf]
  simp -implicitDefEqProofs (disch := first | assumption | omega | rfl | (simp only [z_up_eq, z_up_app, ↓reduceIte, Nat.reduceEqDiff]; omega)) only [z_lit0, z_lit1, z_lit2, z_litl, iI_add, iI_sub, iI_mul, iI_neg, iI_and, iI_or, iI_xor, iI_shl, iI_shr, iI_ushr, iI_div, iI_b, iI_c, iI_i2l, lI_l2i, lI_add, lI_sub, lI_mul, lI_neg, lI_div, lI_or, lI_and, lI_shl, lI_shr, nI_iI, lg_lt0, lg_gt0, lg_eq0, i_ne0', l_ne0', iI_lt, iI_le, iI_eq, lI_lt, lI_le, lI_eq, zb_0, zb_fit, zb_fit0, zb_fit1, i_one_zero, i_w_in, z_tb0, z_tb1, z_tb2, z_tb3, z_tb4, z_tb5, z_tb6, z_tb7, z_tb8, z_tbl, z_tu0, z_tu1, z_tu2, z_i_62, z_i_63, z_i_86, z_i_88, z_l_Y, z_ui_62, z_ui_63, z_ui_86, z_ui_88, z_ul_Y, z_sz_Y, z_sw_Y, iI_nat, z_ix_t, z_at, Int.add_zero, Int.sub_zero, Int.zero_add, Int.mul_zero, ne_eq, Bool.false_eq_true, Bool.true_eq_false, reduceCtorEq, eq_self, and_true, true_and, and_false, false_and, and_self, not_true_eq_false, not_false_eq_true, decide_true, decide_false, ↓reduceIte, Int.reduceEq, Int.reduceNe, Int.reduceLT, Int.reduceLE, Int.reduceAdd, Int.reduceSub, Int.reduceMul, Int.reduceNeg, Nat.reduceAdd, Nat.reduceEqDiff, Nat.reduceBEq, ↓z_x_eq, z_g_t, z_bI_s, z_bL_s, z_bR_s, z_bV_s, Int.cast_ofNat_Int, beq_self_eq_true, Bool.and_true, Bool.true_and, Bool.and_self, Bool.or_true, Bool.true_or, Bool.false_and, Bool.and_false, Bool.false_or, Bool.or_false, Bool.not_false, Bool.not_true, if_true, if_false, ite_true, ite_false, z_up_eq, z_up_app, z_ro_eq]
  rw [n_is_Y (by omega) h (y := 10) (by omega) (p_wd10 (by omega))]
  rw [n_is_Y (by omega) h (y := 11) (by omega) (p_wd11 (by omega))]
  rw [n_is_Y (by omega) h (y := 12) (by omega) (p_wd12 (by omega))]
  rw [n_is_Y (by omega) h (y := 13) (by omega) (p_wd13 (by omega))]
  rw [n_is_Y (by omega) h (y := 14) (by omega) (p_wd14 (by omega))]
  rw [n_is_Y (by omega) h (y := 9) (by omega) (p_wd9 (by omega))]
  rw [n_is_Y (by omega) h (y := 15) (by omega) (p_wd15 (by omega))]
  rw [n_is_Y (by omega) h (y := 16) (by omega) (p_wd16 (by omega))]
  rw [n_is_Y (by omega) h (y := 17) (by omega) (p_wd17 (by omega))]
  rw [n_is_Y (by omega) h (y := 18) (by omega) (p_wd18 (by omega))]
  rw [n_is_Y (by omega) h (y := 19) (by omega) (p_wd19 (by omega))]
  rw [n_is_Y (by omega) h (y := 20) (by omega) (p_wd20 (by omega))]
  rw [n_is_Y (by omega) h (y := 0) (by omega) (p_wd0 (by omega))]
  by_cases k0 : K = 18 + 10
  · rw [if_pos k0]
    rw [n_so_at (K := K) (x := 0) (by omega)]
  rw [if_neg k0]
  by_cases k1 : K = 18 + 11
  · rw [if_pos k1]
    rw [n_so_at (K := K) (x := 1) (by omega)]
  rw [if_neg k1]
  by_cases k2 : K = 18 + 12
  · rw [if_pos k2]
    rw [n_so_at (K := K) (x := 2) (by omega)]
  rw [if_neg k2]
  by_cases k3 : K = 18 + 13
  · rw [if_pos k3]
    rw [n_so_at (K := K) (x := 3) (by omega)]
  rw [if_neg k3]
  by_cases k4 : K = 18 + 14
  · rw [if_pos k4]
    rw [n_so_at (K := K) (x := 4) (by omega)]
  rw [if_neg k4]
  by_cases k5 : K = 18 + 9
  · rw [if_pos k5]
    rw [n_so_at (K := K) (x := 5) (by omega)]
  rw [if_neg k5]
  by_cases k6 : K = 18 + 15
  · rw [if_pos k6]
    rw [n_so_at (K := K) (x := 6) (by omega)]
  rw [if_neg k6]
  by_cases k7 : K = 18 + 16
  · rw [if_pos k7]
    rw [n_so_at (K := K) (x := 7) (by omega)]
  rw [if_neg k7]
  by_cases k8 : K = 18 + 17
  · rw [if_pos k8]
    rw [n_so_at (K := K) (x := 8) (by omega)]
  rw [if_neg k8]
  by_cases k9 : K = 18 + 18
  · rw [if_pos k9]
    rw [n_so_at (K := K) (x := 9) (by omega)]
  rw [if_neg k9]
  by_cases k10 : K = 18 + 19
  · rw [if_pos k10]
    rw [n_so_at (K := K) (x := 10) (by omega)]
  rw [if_neg k10]
  by_cases k11 : K = 18 + 20
  · rw [if_pos k11]
    rw [n_so_at (K := K) (x := 11) (by omega)]
  rw [if_neg k11]
  by_cases k12 : K = 18 + 0
  · rw [if_pos k12]
    rw [n_so_at (K := K) (x := 12) (by omega)]
  rw [if_neg k12]
  unfold n_so
  rw [if_neg (by omega), if_neg (by omega), if_neg (by omega), if_neg (by omega)]; rfl
theorem p_isOf {E : Nat} (hE : 1 ≤ E) (T : ZT) (G : ZG) (s : ZG × ZG) {q k : Int} (h : G 80 14 = q) (hq : 0 ≤ q ∧ q ≤ 2) (hk : 0 ≤ k ∧ k ≤ 9) : z_call E 99 [vr 80, vi (iI k)] (z_Y T G s) = some (vi (iI (zb (j_nm q k))), z_Y T G s) := by
  obtain ⟨d, rfl⟩ : ∃ d, E = d + 1 := ⟨E - 1, by omega⟩
  rw [e_M_isOf]
  unfold j_nm
  by_cases c0 : k = 0
  · have c0' : (k = 0) = True := eq_true c0
    rw [decide_eq_true (by omega)]
    simp -implicitDefEqProofs (disch := first | assumption | omega | rfl | (simp only [z_up_eq, z_up_app, ↓reduceIte, Nat.reduceEqDiff]; omega)) only [z_lit0, z_lit1, z_lit2, z_litl, iI_add, iI_sub, iI_mul, iI_neg, iI_and, iI_or, iI_xor, iI_shl, iI_shr, iI_ushr, iI_div, iI_b, iI_c, iI_i2l, lI_l2i, lI_add, lI_sub, lI_mul, lI_neg, lI_div, lI_or, lI_and, lI_shl, lI_shr, nI_iI, lg_lt0, lg_gt0, lg_eq0, i_ne0', l_ne0', iI_lt, iI_le, iI_eq, lI_lt, lI_le, lI_eq, zb_0, zb_fit, zb_fit0, zb_fit1, i_one_zero, i_w_in, z_tb0, z_tb1, z_tb2, z_tb3, z_tb4, z_tb5, z_tb6, z_tb7, z_tb8, z_tbl, z_tu0, z_tu1, z_tu2, z_i_62, z_i_63, z_i_86, z_i_88, z_l_Y, z_ui_62, z_ui_63, z_ui_86, z_ui_88, z_ul_Y, z_sz_Y, z_sw_Y, iI_nat, z_ix_t, z_at, Int.add_zero, Int.sub_zero, Int.zero_add, Int.mul_zero, ne_eq, Bool.false_eq_true, Bool.true_eq_false, reduceCtorEq, eq_self, and_true, true_and, and_false, false_and, and_self, not_true_eq_false, not_false_eq_true, decide_true, decide_false, ↓reduceIte, Int.reduceEq, Int.reduceNe, Int.reduceLT, Int.reduceLE, Int.reduceAdd, Int.reduceSub, Int.reduceMul, Int.reduceNeg, Nat.reduceAdd, Nat.reduceEqDiff, Nat.reduceBEq, ↓z_x_eq, z_g_t, z_bI_s, z_bL_s, z_bR_s, z_bV_s, Int.cast_ofNat_Int, beq_self_eq_true, Bool.and_true, Bool.true_and, Bool.and_self, Bool.or_true, Bool.true_or, Bool.false_and, Bool.and_false, Bool.false_or, Bool.or_false, Bool.not_false, Bool.not_true, if_true, if_false, ite_true, ite_false, z_up_eq, z_up_app, z_ro_eq, c0']
    rfl
  have c0' : (k = 0) = False := eq_false c0
  by_cases c1 : k < 6
  · have c1' : (k < 6) = True := eq_true c1
    by_cases c2 : q = 2
    · have c2' : (q = 2) = True := eq_true c2
      rw [decide_eq_false (by omega)]
      simp -implicitDefEqProofs (disch := first | assumption | omega | rfl | (simp only [z_up_eq, z_up_app, ↓reduceIte, Nat.reduceEqDiff]; omega)) only [z_lit0, z_lit1, z_lit2, z_litl, iI_add, iI_sub, iI_mul, iI_neg, iI_and, iI_or, iI_xor, iI_shl, iI_shr, iI_ushr, iI_div, iI_b, iI_c, iI_i2l, lI_l2i, lI_add, lI_sub, lI_mul, lI_neg, lI_div, lI_or, lI_and, lI_shl, lI_shr, nI_iI, lg_lt0, lg_gt0, lg_eq0, i_ne0', l_ne0', iI_lt, iI_le, iI_eq, lI_lt, lI_le, lI_eq, zb_0, zb_fit, zb_fit0, zb_fit1, i_one_zero, i_w_in, z_tb0, z_tb1, z_tb2, z_tb3, z_tb4, z_tb5, z_tb6, z_tb7, z_tb8, z_tbl, z_tu0, z_tu1, z_tu2, z_i_62, z_i_63, z_i_86, z_i_88, z_l_Y, z_ui_62, z_ui_63, z_ui_86, z_ui_88, z_ul_Y, z_sz_Y, z_sw_Y, iI_nat, z_ix_t, z_at, Int.add_zero, Int.sub_zero, Int.zero_add, Int.mul_zero, ne_eq, Bool.false_eq_true, Bool.true_eq_false, reduceCtorEq, eq_self, and_true, true_and, and_false, false_and, and_self, not_true_eq_false, not_false_eq_true, decide_true, decide_false, ↓reduceIte, Int.reduceEq, Int.reduceNe, Int.reduceLT, Int.reduceLE, Int.reduceAdd, Int.reduceSub, Int.reduceMul, Int.reduceNeg, Nat.reduceAdd, Nat.reduceEqDiff, Nat.reduceBEq, ↓z_x_eq, z_g_t, z_bI_s, z_bL_s, z_bR_s, z_bV_s, Int.cast_ofNat_Int, beq_self_eq_true, Bool.and_true, Bool.true_and, Bool.and_self, Bool.or_true, Bool.true_or, Bool.false_and, Bool.and_false, Bool.false_or, Bool.or_false, Bool.not_false, Bool.not_true, if_true, if_false, ite_true, ite_false, z_up_eq, z_up_app, z_ro_eq, c0', c1', h, c2']
      rfl
    · have c2' : (q = 2) = False := eq_false c2
      rw [decide_eq_true (by omega)]
      simp -implicitDefEqProofs (disch := first | assumption | omega | rfl | (simp only [z_up_eq, z_up_app, ↓reduceIte, Nat.reduceEqDiff]; omega)) only [z_lit0, z_lit1, z_lit2, z_litl, iI_add, iI_sub, iI_mul, iI_neg, iI_and, iI_or, iI_xor, iI_shl, iI_shr, iI_ushr, iI_div, iI_b, iI_c, iI_i2l, lI_l2i, lI_add, lI_sub, lI_mul, lI_neg, lI_div, lI_or, lI_and, lI_shl, lI_shr, nI_iI, lg_lt0, lg_gt0, lg_eq0, i_ne0', l_ne0', iI_lt, iI_le, iI_eq, lI_lt, lI_le, lI_eq, zb_0, zb_fit, zb_fit0, zb_fit1, i_one_zero, i_w_in, z_tb0, z_tb1, z_tb2, z_tb3, z_tb4, z_tb5, z_tb6, z_tb7, z_tb8, z_tbl, z_tu0, z_tu1, z_tu2, z_i_62, z_i_63, z_i_86, z_i_88, z_l_Y, z_ui_62, z_ui_63, z_ui_86, z_ui_88, z_ul_Y, z_sz_Y, z_sw_Y, iI_nat, z_ix_t, z_at, Int.add_zero, Int.sub_zero, Int.zero_add, Int.mul_zero, ne_eq, Bool.false_eq_true, Bool.true_eq_false, reduceCtorEq, eq_self, and_true, true_and, and_false, false_and, and_self, not_true_eq_false, not_false_eq_true, decide_true, decide_false, ↓reduceIte, Int.reduceEq, Int.reduceNe, Int.reduceLT, Int.reduceLE, Int.reduceAdd, Int.reduceSub, Int.reduceMul, Int.reduceNeg, Nat.reduceAdd, Nat.reduceEqDiff, Nat.reduceBEq, ↓z_x_eq, z_g_t, z_bI_s, z_bL_s, z_bR_s, z_bV_s, Int.cast_ofNat_Int, beq_self_eq_true, Bool.and_true, Bool.true_and, Bool.and_self, Bool.or_true, Bool.true_or, Bool.false_and, Bool.and_false, Bool.false_or, Bool.or_false, Bool.not_false, Bool.not_true, if_true, if_false, ite_true, ite_false, z_up_eq, z_up_app, z_ro_eq, c0', c1', h, c2']
      rfl
  have c1' : (k < 6) = False := eq_false c1
  by_cases c3 : k = 6
  · have c3' : (k = 6) = True := eq_true c3
    by_cases c2 : q = 1
    · have c2' : (q = 1) = True := eq_true c2
      rw [decide_eq_true (by omega)]
      simp -implicitDefEqProofs (disch := first | assumption | omega | rfl | (simp only [z_up_eq, z_up_app, ↓reduceIte, Nat.reduceEqDiff]; omega)) only [z_lit0, z_lit1, z_lit2, z_litl, iI_add, iI_sub, iI_mul, iI_neg, iI_and, iI_or, iI_xor, iI_shl, iI_shr, iI_ushr, iI_div, iI_b, iI_c, iI_i2l, lI_l2i, lI_add, lI_sub, lI_mul, lI_neg, lI_div, lI_or, lI_and, lI_shl, lI_shr, nI_iI, lg_lt0, lg_gt0, lg_eq0, i_ne0', l_ne0', iI_lt, iI_le, iI_eq, lI_lt, lI_le, lI_eq, zb_0, zb_fit, zb_fit0, zb_fit1, i_one_zero, i_w_in, z_tb0, z_tb1, z_tb2, z_tb3, z_tb4, z_tb5, z_tb6, z_tb7, z_tb8, z_tbl, z_tu0, z_tu1, z_tu2, z_i_62, z_i_63, z_i_86, z_i_88, z_l_Y, z_ui_62, z_ui_63, z_ui_86, z_ui_88, z_ul_Y, z_sz_Y, z_sw_Y, iI_nat, z_ix_t, z_at, Int.add_zero, Int.sub_zero, Int.zero_add, Int.mul_zero, ne_eq, Bool.false_eq_true, Bool.true_eq_false, reduceCtorEq, eq_self, and_true, true_and, and_false, false_and, and_self, not_true_eq_false, not_false_eq_true, decide_true, decide_false, ↓reduceIte, Int.reduceEq, Int.reduceNe, Int.reduceLT, Int.reduceLE, Int.reduceAdd, Int.reduceSub, Int.reduceMul, Int.reduceNeg, Nat.reduceAdd, Nat.reduceEqDiff, Nat.reduceBEq, ↓z_x_eq, z_g_t, z_bI_s, z_bL_s, z_bR_s, z_bV_s, Int.cast_ofNat_Int, beq_self_eq_true, Bool.and_true, Bool.true_and, Bool.and_self, Bool.or_true, Bool.true_or, Bool.false_and, Bool.and_false, Bool.false_or, Bool.or_false, Bool.not_false, Bool.not_true, if_true, if_false, ite_true, ite_false, z_up_eq, z_up_app, z_ro_eq, c0', c1', c3', h, c2']
      rfl
    · have c2' : (q = 1) = False := eq_false c2
      rw [decide_eq_false (by omega)]
      simp -implicitDefEqProofs (disch := first | assumption | omega | rfl | (simp only [z_up_eq, z_up_app, ↓reduceIte, Nat.reduceEqDiff]; omega)) only [z_lit0, z_lit1, z_lit2, z_litl, iI_add, iI_sub, iI_mul, iI_neg, iI_and, iI_or, iI_xor, iI_shl, iI_shr, iI_ushr, iI_div, iI_b, iI_c, iI_i2l, lI_l2i, lI_add, lI_sub, lI_mul, lI_neg, lI_div, lI_or, lI_and, lI_shl, lI_shr, nI_iI, lg_lt0, lg_gt0, lg_eq0, i_ne0', l_ne0', iI_lt, iI_le, iI_eq, lI_lt, lI_le, lI_eq, zb_0, zb_fit, zb_fit0, zb_fit1, i_one_zero, i_w_in, z_tb0, z_tb1, z_tb2, z_tb3, z_tb4, z_tb5, z_tb6, z_tb7, z_tb8, z_tbl, z_tu0, z_tu1, z_tu2, z_i_62, z_i_63, z_i_86, z_i_88, z_l_Y, z_ui_62, z_ui_63, z_ui_86, z_ui_88, z_ul_Y, z_sz_Y, z_sw_Y, iI_nat, z_ix_t, z_at, Int.add_zero, Int.sub_zero, Int.zero_add, Int.mul_zero, ne_eq, Bool.false_eq_true, Bool.true_eq_false, reduceCtorEq, eq_self, and_true, true_and, and_false, false_and, and_self, not_true_eq_false, not_false_eq_true, decide_true, decide_false, ↓reduceIte, Int.reduceEq, Int.reduceNe, Int.reduceLT, Int.reduceLE, Int.reduceAdd, Int.reduceSub, Int.reduceMul, Int.reduceNeg, Nat.reduceAdd, Nat.reduceEqDiff, Nat.reduceBEq, ↓z_x_eq, z_g_t, z_bI_s, z_bL_s, z_bR_s, z_bV_s, Int.cast_ofNat_Int, beq_self_eq_true, Bool.and_true, Bool.true_and, Bool.and_self, Bool.or_true, Bool.true_or, Bool.false_and, Bool.and_false, Bool.false_or, Bool.or_false, Bool.not_false, Bool.not_true, if_true, if_false, ite_true, ite_false, z_up_eq, z_up_app, z_ro_eq, c0', c1', c3', h, c2']
      rfl
  have c3' : (k = 6) = False := eq_false c3
  by_cases c2 : q = 2
  · have c2' : (q = 2) = True := eq_true c2
    rw [decide_eq_true (by omega)]
    simp -implicitDefEqProofs (disch := first | assumption | omega | rfl | (simp only [z_up_eq, z_up_app, ↓reduceIte, Nat.reduceEqDiff]; omega)) only [z_lit0, z_lit1, z_lit2, z_litl, iI_add, iI_sub, iI_mul, iI_neg, iI_and, iI_or, iI_xor, iI_shl, iI_shr, iI_ushr, iI_div, iI_b, iI_c, iI_i2l, lI_l2i, lI_add, lI_sub, lI_mul, lI_neg, lI_div, lI_or, lI_and, lI_shl, lI_shr, nI_iI, lg_lt0, lg_gt0, lg_eq0, i_ne0', l_ne0', iI_lt, iI_le, iI_eq, lI_lt, lI_le, lI_eq, zb_0, zb_fit, zb_fit0, zb_fit1, i_one_zero, i_w_in, z_tb0, z_tb1, z_tb2, z_tb3, z_tb4, z_tb5, z_tb6, z_tb7, z_tb8, z_tbl, z_tu0, z_tu1, z_tu2, z_i_62, z_i_63, z_i_86, z_i_88, z_l_Y, z_ui_62, z_ui_63, z_ui_86, z_ui_88, z_ul_Y, z_sz_Y, z_sw_Y, iI_nat, z_ix_t, z_at, Int.add_zero, Int.sub_zero, Int.zero_add, Int.mul_zero, ne_eq, Bool.false_eq_true, Bool.true_eq_false, reduceCtorEq, eq_self, and_true, true_and, and_false, false_and, and_self, not_true_eq_false, not_false_eq_true, decide_true, decide_false, ↓reduceIte, Int.reduceEq, Int.reduceNe, Int.reduceLT, Int.reduceLE, Int.reduceAdd, Int.reduceSub, Int.reduceMul, Int.reduceNeg, Nat.reduceAdd, Nat.reduceEqDiff, Nat.reduceBEq, ↓z_x_eq, z_g_t, z_bI_s, z_bL_s, z_bR_s, z_bV_s, Int.cast_ofNat_Int, beq_self_eq_true, Bool.and_true, Bool.true_and, Bool.and_self, Bool.or_true, Bool.true_or, Bool.false_and, Bool.and_false, Bool.false_or, Bool.or_false, Bool.not_false, Bool.not_true, if_true, if_false, ite_true, ite_false, z_up_eq, z_up_app, z_ro_eq, c0', c1', c3', h, c2']
    rfl
  · have c2' : (q = 2) = False := eq_false c2
    rw [decide_eq_false (by omega)]
    simp -implicitDefEqProofs (disch := first | assumption | omega | rfl | (simp only [z_up_eq, z_up_app, ↓reduceIte, Nat.reduceEqDiff]; omega)) only [z_lit0, z_lit1, z_lit2, z_litl, iI_add, iI_sub, iI_mul, iI_neg, iI_and, iI_or, iI_xor, iI_shl, iI_shr, iI_ushr, iI_div, iI_b, iI_c, iI_i2l, lI_l2i, lI_add, lI_sub, lI_mul, lI_neg, lI_div, lI_or, lI_and, lI_shl, lI_shr, nI_iI, lg_lt0, lg_gt0, lg_eq0, i_ne0', l_ne0', iI_lt, iI_le, iI_eq, lI_lt, lI_le, lI_eq, zb_0, zb_fit, zb_fit0, zb_fit1, i_one_zero, i_w_in, z_tb0, z_tb1, z_tb2, z_tb3, z_tb4, z_tb5, z_tb6, z_tb7, z_tb8, z_tbl, z_tu0, z_tu1, z_tu2, z_i_62, z_i_63, z_i_86, z_i_88, z_l_Y, z_ui_62, z_ui_63, z_ui_86, z_ui_88, z_ul_Y, z_sz_Y, z_sw_Y, iI_nat, z_ix_t, z_at, Int.add_zero, Int.sub_zero, Int.zero_add, Int.mul_zero, ne_eq, Bool.false_eq_true, Bool.true_eq_false, reduceCtorEq, eq_self, and_true, true_and, and_false, false_and, and_self, not_true_eq_false, not_false_eq_true, decide_true, decide_false, ↓reduceIte, Int.reduceEq, Int.reduceNe, Int.reduceLT, Int.reduceLE, Int.reduceAdd, Int.reduceSub, Int.reduceMul, Int.reduceNeg, Nat.reduceAdd, Nat.reduceEqDiff, Nat.reduceBEq, ↓z_x_eq, z_g_t, z_bI_s, z_bL_s, z_bR_s, z_bV_s, Int.cast_ofNat_Int, beq_self_eq_true, Bool.and_true, Bool.true_and, Bool.and_self, Bool.or_true, Bool.true_or, Bool.false_and, Bool.and_false, Bool.false_or, Bool.or_false, Bool.not_false, Bool.not_true, if_true, if_false, ite_true, ite_false, z_up_eq, z_up_app, z_ro_eq, c0', c1', c3', h, c2']
    rfl

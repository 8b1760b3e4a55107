/-! THE PURE PART, 75: the model's tokens -/
theorem l_bv {x : Int} (h : 0 ≤ x ∧ x < 9223372036854775808) : (lI x).toBitVec.toNat = x.toNat := by
  show (BitVec.ofInt 64 x).toNat = _
  rw [BitVec.toNat_ofInt]
  omega
theorem l_shl8 {w : Int} (h : 0 ≤ w ∧ w < 281474976710656) : l_shl w 8 = 256 * w := by
  unfold l_shl
  rw [show (iI 8).toInt64 &&& 63 = 8 from by decide]
  show ((lI w).toBitVec <<< 8).toInt = _
  have e : ((lI w).toBitVec <<< 8).toNat = 256 * w.toNat := by
    rw [BitVec.toNat_shiftLeft, l_bv (by omega), Nat.shiftLeft_eq]
    omega
  rw [BitVec.toInt_eq_toNat_of_lt (by rw [e]; omega), e]
  omega
theorem l_pk {w b : Int} (h : 0 ≤ w ∧ w < 281474976710656) (hb : 0 ≤ b ∧ b < 256) : l_or (l_shl w 8) b = 256 * w + b := by
  rw [l_shl8 h]
  unfold l_or
  show ((lI (256 * w)).toBitVec ||| (lI b).toBitVec).toInt = _
  have e : ((lI (256 * w)).toBitVec ||| (lI b).toBitVec).toNat = 256 * w.toNat + b.toNat := by
    rw [BitVec.toNat_or, l_bv (by omega), l_bv (by omega)]
    have := Nat.shiftLeft_add_eq_or_of_lt (i := 8) (b := b.toNat) (by omega) w.toNat
    rw [Nat.shiftLeft_eq] at this
    rw [show (256 * w).toNat = w.toNat * 2 ^ 8 by omega, ← this]
    omega
  rw [BitVec.toInt_eq_toNat_of_lt (by rw [e]; omega), e]
  omega
theorem l_shr48 {w : Int} (h : 0 ≤ w ∧ w < 9223372036854775808) : l_shr w 48 = w / 281474976710656 := by
  unfold l_shr
  rw [show (iI 48).toInt64 &&& 63 = 48 from by decide]
  show ((lI w).toBitVec.sshiftRight 48).toInt = _
  rw [BitVec.toInt_sshiftRight]
  show (lI w).toInt >>> 48 = _
  rw [lI_in ⟨by omega, by omega⟩]
  exact Int.shiftRight_eq_div_pow w 48
theorem l_shr48' {w : Int} (h : 0 ≤ w ∧ w < 9223372036854775808) : lI w >>> lI (l_and 48 63) = lI (w / 281474976710656) := by
  rw [← l_shr48 h]
  unfold l_shr
  rw [lI_toInt, show lI (l_and 48 63) = (iI 48).toInt64 &&& 63 from by decide]
theorem l_pk' {w b : Int} (h : 0 ≤ w ∧ w < 281474976710656) (hb : 0 ≤ b ∧ b < 256) : lI w <<< lI (l_and 8 63) ||| lI b = lI (256 * w + b) := by
  rw [← l_pk h hb]
  unfold l_or
  rw [lI_toInt]
  unfold l_shl
  rw [lI_toInt, show lI (l_and 8 63) = (iI 8).toInt64 &&& 63 from by decide]
def y_ps (w b : Int) : Int := if w < 281474976710656 then 256 * w + b else 1152921504606846976
def y_pk : List Int → Int → Int
  | [], w => w
  | b :: l, w => y_pk l (y_ps w b)
/-- the same, from behind -/
def y_pr : List Int → Int
  | [] => 0
  | b :: l => y_ps (y_pr l) b
theorem y_pk_app : ∀ (l : List Int) (w b : Int), y_pk (l ++ [b]) w = y_ps (y_pk l w) b
  | [], _, _ => rfl
  | c :: l, w, b => y_pk_app l (y_ps w c) b
theorem y_pk_pr : ∀ l : List Int, y_pr l = y_pk l.reverse 0
  | [] => rfl
  | b :: l => by
    rw [List.reverse_cons, y_pk_app, ← y_pk_pr l]; rfl
theorem y_pr_in : ∀ l : List Int, (∀ b, b ∈ l → 1 ≤ b ∧ b ≤ 255) → 0 ≤ y_pr l ∧ (y_pr l = 0 → l = [])
  | [], _ => ⟨Int.le_refl _, fun _ => rfl⟩
  | b :: l, h => by
    have ih := y_pr_in l (fun c m => h c (List.mem_cons_of_mem _ m))
    have hb := h b (List.mem_cons_self ..)
    show 0 ≤ y_ps (y_pr l) b ∧ (y_ps (y_pr l) b = 0 → _)
    unfold y_ps
    split
    · exact ⟨by omega, fun q => by omega⟩
    · exact ⟨by omega, fun q => by omega⟩
theorem y_pr_inj : ∀ l l' : List Int, (∀ b, b ∈ l → 1 ≤ b ∧ b ≤ 255) → (∀ b, b ∈ l' → 1 ≤ b ∧ b ≤ 255) → y_pr l = y_pr l' → y_pr l' < 281474976710656 → l = l'
  | [], l', _, h', e, _ => ((y_pr_in l' h').2 e.symm).symm
  | b :: l, [], h, _, e, _ => (y_pr_in (b :: l) h).2 e
  | b :: l, c :: l', h, h', e, hl => by
    have h1 := y_pr_in l (fun c m => h c (List.mem_cons_of_mem _ m))
    have h2 := y_pr_in l' (fun c m => h' c (List.mem_cons_of_mem _ m))
    have hb := h b (List.mem_cons_self ..)
    have hc := h' c (List.mem_cons_self ..)
    have e' : y_ps (y_pr l) b = y_ps (y_pr l') c := e
    have hl' : y_ps (y_pr l') c < 281474976710656 := hl
    unfold y_ps at e' hl'
    have q2 : y_pr l' < 281474976710656 := by
      by_cases q : y_pr l' < 281474976710656
      · exact q
      · rw [if_neg q] at hl'; omega
    rw [if_pos q2] at e' hl'
    have q1 : y_pr l < 281474976710656 := by
      by_cases q : y_pr l < 281474976710656
      · exact q
      · rw [if_neg q] at e'; omega
    rw [if_pos q1] at e'
    have eb : b = c := by omega
    rw [eb, y_pr_inj l l' (fun c m => h c (List.mem_cons_of_mem _ m)) (fun c m => h' c (List.mem_cons_of_mem _ m)) (by omega) q2]
theorem y_pk_inj {l l' : List Int} (h : ∀ b, b ∈ l → 1 ≤ b ∧ b ≤ 255) (h' : ∀ b, b ∈ l' → 1 ≤ b ∧ b ≤ 255) (e : y_pk l 0 = y_pk l' 0) (hl : y_pk l' 0 < 281474976710656) : l = l' := by
  have a1 := y_pk_pr l.reverse
  have a2 := y_pk_pr l'.reverse
  rw [List.reverse_reverse] at a1 a2
  have := y_pr_inj l.reverse l'.reverse (fun b m => h b (List.mem_reverse.mp m)) (fun b m => h' b (List.mem_reverse.mp m)) (by rw [a1, a2]; exact e) (by rw [a2]; exact hl)
  exact List.reverse_inj.mp this
/-- a number, as far as the model goes -/
def y_mn (B : Int → Int) : Nat → Int → Int → Int
  | 0, _, n => n
  | m + 1, p, n => y_mn B m (p + 1) (if 99999 < n then n else 10 * n + B p - 48)
theorem y_mn_num {B : Int → Int} : ∀ (m : Nat) (p c n : Int), (∀ k, p ≤ k → k < p + m → 48 ≤ B k ∧ B k ≤ 57) → 0 ≤ n → n ≤ 1000000 → c = min n 10000 → y_num B m p c = min (y_mn B m p n) 10000 ∧ 0 ≤ y_mn B m p n ∧ y_mn B m p n ≤ 1000000
  | 0, _, _, _, _, h0, h1, h2 => ⟨h2, h0, h1⟩
  | m + 1, p, c, n, hd, h0, h1, h2 => by
    have d0 := hd p (by omega) (by omega)
    have hd' : ∀ k, p + 1 ≤ k → k < p + 1 + m → 48 ≤ B k ∧ B k ≤ 57 := fun k a b => hd k (by omega) (by omega)
    show y_num B m (p + 1) (min (c * 10 + B p - 48) 10000) = min (y_mn B m (p + 1) (if 99999 < n then n else 10 * n + B p - 48)) 10000 ∧ 0 ≤ y_mn B m (p + 1) (if 99999 < n then n else 10 * n + B p - 48) ∧ y_mn B m (p + 1) (if 99999 < n then n else 10 * n + B p - 48) ≤ 1000000
    by_cases q : 99999 < n
    · rw [if_pos q]
      exact y_mn_num m (p + 1) _ n hd' h0 h1 (by omega)
    · rw [if_neg q]
      exact y_mn_num m (p + 1) _ _ hd' (by omega) (by omega) (by omega)
def y_mk (B : Int → Int) (L p : Int) : Int := if p < L then (if y_dig (B p) = true then 1 else if y_let (B p) = true then 2 else if p + 1 < y_end B L p then (if B p = 60 then 4 else 5) else if 0 ≤ y_si y_sg 0 (B p) then B p else 3) else 0
/-- what the model has of the token at a place -/
def y_mt (R : Int → Int) (w : Int) (B : Int → Int) (L p : Int) : Prop := R 8 = p ∧ R 7 = (if p < L then y_end B L p else L) ∧ R 9 = y_mk B L p ∧ (p < L → y_dig (B p) = true → R 10 = y_mn B (y_end B L p - p).toNat p 0) ∧ (p < L → y_let (B p) = true → w = y_pk (y_sl B (y_end B L p - p).toNat p) 0)
def y_tm (G : ZG) (B : Int → Int) (L : Int) : Prop := (0 ≤ L ∧ L ≤ 300) ∧ G 80 4 = L ∧ G 84 = B ∧ ∀ k, 0 ≤ k → k < L → 0 ≤ B k ∧ B k ≤ 255
theorem p_byteAt (d : Nat) (T : ZT) (G : ZG) (s : ZG × ZG) {B : Int → Int} {L p : Int} (hB : y_tm G B L) (hp : 0 ≤ p ∧ p ≤ L) : z_call (d + 1) 76 [vr 80, vi (iI p)] (z_Y T G s) = some (vi (iI (if p < L then B p else -1)), z_Y T G s) := by
  obtain ⟨hL, h4, h84, hb⟩ := hB
  rw [e_M_byteAt]
  by_cases c : p < L
  · have c' : (p < L) = True := eq_true c
    rw [if_pos c]
    simp -implicitDefEqProofs (disch := first | assumption | omega | rfl | (simp only [z_up_eq, z_up_app, ↓reduceIte, Nat.reduceEqDiff]; omega)) only [z_lit0, z_lit1, z_lit2, z_litl, iI_add, iI_sub, iI_mul, iI_neg, iI_and, iI_or, iI_xor, iI_shl, iI_shr, iI_ushr, iI_div, iI_b, iI_c, iI_i2l, lI_l2i, lI_add, lI_sub, lI_mul, lI_neg, lI_div, lI_or, lI_and, lI_shl, lI_shr, nI_iI, lg_lt0, lg_gt0, lg_eq0, i_ne0', l_ne0', iI_lt, iI_le, iI_eq, lI_lt, lI_le, lI_eq, zb_0, zb_fit, zb_fit0, zb_fit1, i_one_zero, i_w_in, z_tb0, z_tb1, z_tb2, z_tb3, z_tb4, z_tb5, z_tb6, z_tb7, z_tb8, z_tbl, z_tu0, z_tu1, z_tu2, z_i_62, z_i_63, z_i_86, z_i_88, z_l_Y, z_ui_62, z_ui_63, z_ui_86, z_ui_88, z_ul_Y, z_sz_Y, z_sw_Y, iI_nat, z_ix_t, z_at, Int.add_zero, Int.sub_zero, Int.zero_add, Int.mul_zero, ne_eq, Bool.false_eq_true, Bool.true_eq_false, reduceCtorEq, eq_self, and_true, true_and, and_false, false_and, and_self, not_true_eq_false, not_false_eq_true, decide_true, decide_false, ↓reduceIte, Int.reduceEq, Int.reduceNe, Int.reduceLT, Int.reduceLE, Int.reduceAdd, Int.reduceSub, Int.reduceMul, Int.reduceNeg, Nat.reduceAdd, Nat.reduceEqDiff, Nat.reduceBEq, ↓z_x_eq, z_g_t, z_bI_s, z_bL_s, z_bR_s, z_bV_s, Int.cast_ofNat_Int, beq_self_eq_true, Bool.and_true, Bool.true_and, Bool.and_self, Bool.or_true, Bool.true_or, Bool.false_and, Bool.and_false, Bool.false_or, Bool.or_false, Bool.not_false, Bool.not_true, if_true, if_false, ite_true, ite_false, z_up_eq, z_up_app, z_ro_eq, h4, c', h84]
  · have c' : (p < L) = False := eq_false c
    rw [if_neg c]
    simp -implicitDefEqProofs (disch := first | assumption | omega | rfl | (simp only [z_up_eq, z_up_app, ↓reduceIte, Nat.reduceEqDiff]; omega)) only [z_lit0, z_lit1, z_lit2, z_litl, iI_add, iI_sub, iI_mul, iI_neg, iI_and, iI_or, iI_xor, iI_shl, iI_shr, iI_ushr, iI_div, iI_b, iI_c, iI_i2l, lI_l2i, lI_add, lI_sub, lI_mul, lI_neg, lI_div, lI_or, lI_and, lI_shl, lI_shr, nI_iI, lg_lt0, lg_gt0, lg_eq0, i_ne0', l_ne0', iI_lt, iI_le, iI_eq, lI_lt, lI_le, lI_eq, zb_0, zb_fit, zb_fit0, zb_fit1, i_one_zero, i_w_in, z_tb0, z_tb1, z_tb2, z_tb3, z_tb4, z_tb5, z_tb6, z_tb7, z_tb8, z_tbl, z_tu0, z_tu1, z_tu2, z_i_62, z_i_63, z_i_86, z_i_88, z_l_Y, z_ui_62, z_ui_63, z_ui_86, z_ui_88, z_ul_Y, z_sz_Y, z_sw_Y, iI_nat, z_ix_t, z_at, Int.add_zero, Int.sub_zero, Int.zero_add, Int.mul_zero, ne_eq, Bool.false_eq_true, Bool.true_eq_false, reduceCtorEq, eq_self, and_true, true_and, and_false, false_and, and_self, not_true_eq_false, not_false_eq_true, decide_true, decide_false, ↓reduceIte, Int.reduceEq, Int.reduceNe, Int.reduceLT, Int.reduceLE, Int.reduceAdd, Int.reduceSub, Int.reduceMul, Int.reduceNeg, Nat.reduceAdd, Nat.reduceEqDiff, Nat.reduceBEq, ↓z_x_eq, z_g_t, z_bI_s, z_bL_s, z_bR_s, z_bV_s, Int.cast_ofNat_Int, beq_self_eq_true, Bool.and_true, Bool.true_and, Bool.and_self, Bool.or_true, Bool.true_or, Bool.false_and, Bool.and_false, Bool.false_or, Bool.or_false, Bool.not_false, Bool.not_true, if_true, if_false, ite_true, ite_false, z_up_eq, z_up_app, z_ro_eq, h4, c']
theorem p_mLet (d : Nat) {x : Int} (σ : ZM) (hx : i_in x) : z_call (d + 1) 78 [vi (iI x)] σ = some (vi (iI (zb (y_let x))), σ) := by
  rw [e_M_isLetterByte, ← e_Re_isLetter d (iI x) σ]
  exact p_isLet d σ hx
theorem p_mDig (d : Nat) {x : Int} (σ : ZM) (hx : i_in x) : z_call (d + 1) 77 [vi (iI x)] σ = some (vi (iI (zb (y_dig x))), σ) := by
  rw [e_M_isFigure, ← e_Re_isDigit d (iI x) σ]
  exact p_isDig d σ hx
def y_sgn (x : Int32) : Int32 := if x = (35 : Int32) then 1 else if x = (36 : Int32) then 0 else if x = (37 : Int32) then 1 else if x = (38 : Int32) then 0 else if x = (39 : Int32) then 0 else if x = (40 : Int32) then 1 else if x = (41 : Int32) then 1 else if x = (42 : Int32) then 1 else if x = (43 : Int32) then 1 else if x = (44 : Int32) then 1 else if x = (45 : Int32) then 1 else if x = (46 : Int32) then 0 else if x = (47 : Int32) then 1 else if x = (48 : Int32) then 0 else if x = (49 : Int32) then 0 else if x = (50 : Int32) then 0 else if x = (51 : Int32) then 0 else if x = (52 : Int32) then 0 else if x = (53 : Int32) then 0 else if x = (54 : Int32) then 0 else if x = (55 : Int32) then 0 else if x = (56 : Int32) then 0 else if x = (57 : Int32) then 0 else if x = (58 : Int32) then 0 else if x = (59 : Int32) then 1 else if x = (60 : Int32) then 1 else if x = (61 : Int32) then 1 else if x = (62 : Int32) then 1 else 0
theorem y_sgnn : ∀ n : Nat, n < 256 → y_sgn (iI n) = iI (zb (decide (0 ≤ y_si y_sg 0 n))) := by decide +kernel
theorem p_mSgn (d : Nat) {x : Int} (σ : ZM) (hx : 0 ≤ x ∧ x ≤ 255) : z_call (d + 1) 79 [vi (iI x)] σ = some (vi (iI (zb (decide (0 ≤ y_si y_sg 0 x)))), σ) := by
  have e := y_sgnn x.toNat (by omega)
  rw [show ((x.toNat : Nat) : Int) = x by omega] at e
  rw [← e, e_M_isSign]
  have q : ∀ z : Int32, (some (vi (y_sgn z), σ) : ZR) = (fun v : Int32 => (some (vi v, σ) : ZR)) (y_sgn z) := fun _ => rfl
  rw [q]
  unfold y_sgn
  simp only [apply_ite (fun v : Int32 => (some (vi v, σ) : ZR))]

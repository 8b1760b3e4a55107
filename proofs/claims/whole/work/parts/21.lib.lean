/-! THE PURE PART, 1: numbers. Every int of the small machine is written as iI of an integer, every long as lI of one. -/
def iI (z : Int) : Int32 := Int32.ofInt z
def lI (z : Int) : Int64 := Int64.ofInt z
theorem iI_toInt (x : Int32) : iI x.toInt = x := Int32.ofInt_toInt x
theorem lI_toInt (x : Int64) : lI x.toInt = x := Int64.ofInt_toInt x
abbrev i_in (a : Int) : Prop := -2147483648 ≤ a ∧ a < 2147483648
abbrev l_in (a : Int) : Prop := -9223372036854775808 ≤ a ∧ a < 9223372036854775808
theorem iI_in {a : Int} (h : i_in a) : (iI a).toInt = a := Int32.toInt_ofInt_of_le (by have := h.1; omega) (by have := h.2; omega)
theorem lI_in {a : Int} (h : l_in a) : (lI a).toInt = a := Int64.toInt_ofInt_of_le (by have := h.1; omega) (by have := h.2; omega)
theorem i_tin (x : Int32) : i_in x.toInt := ⟨by have := x.le_toInt; omega, by have := x.toInt_lt; omega⟩
theorem l_tin (x : Int64) : l_in x.toInt := ⟨by have := x.le_toInt; omega, by have := x.toInt_lt; omega⟩
theorem iI_add (a b : Int) : iI a + iI b = iI (a + b) := (Int32.ofInt_add a b).symm
theorem iI_sub (a b : Int) : iI a - iI b = iI (a - b) := (Int32.ofInt_sub a b).symm
theorem iI_mul (a b : Int) : iI a * iI b = iI (a * b) := (Int32.ofInt_mul a b).symm
theorem iI_neg (a : Int) : -iI a = iI (-a) := (Int32.ofInt_neg a).symm
theorem lI_add (a b : Int) : lI a + lI b = lI (a + b) := (Int64.ofInt_add a b).symm
theorem lI_sub (a b : Int) : lI a - lI b = lI (a - b) := (Int64.ofInt_sub a b).symm
theorem lI_mul (a b : Int) : lI a * lI b = lI (a * b) := (Int64.ofInt_mul a b).symm
theorem lI_neg (a : Int) : -lI a = lI (-a) := (Int64.ofInt_neg a).symm
theorem iI_inj {a b : Int} (ha : i_in a) (hb : i_in b) (h : iI a = iI b) : a = b := by rw [← iI_in ha, ← iI_in hb, h]
theorem lI_inj {a b : Int} (ha : l_in a) (hb : l_in b) (h : lI a = lI b) : a = b := by rw [← lI_in ha, ← lI_in hb, h]
theorem iI_eq {a b : Int} (h : i_in a ∧ i_in b) : (iI a = iI b) = (a = b) := propext ⟨iI_inj h.1 h.2, fun e => by rw [e]⟩
theorem lI_eq {a b : Int} (h : l_in a ∧ l_in b) : (lI a = lI b) = (a = b) := propext ⟨lI_inj h.1 h.2, fun e => by rw [e]⟩
theorem iI_lt {a b : Int} (h : i_in a ∧ i_in b) : (iI a < iI b) = (a < b) := by rw [Int32.lt_iff_toInt_lt, iI_in h.1, iI_in h.2]
theorem iI_le {a b : Int} (h : i_in a ∧ i_in b) : (iI a ≤ iI b) = (a ≤ b) := by rw [Int32.le_iff_toInt_le, iI_in h.1, iI_in h.2]
theorem lI_lt {a b : Int} (h : l_in a ∧ l_in b) : (lI a < lI b) = (a < b) := by rw [Int64.lt_iff_toInt_lt, lI_in h.1, lI_in h.2]
theorem lI_le {a b : Int} (h : l_in a ∧ l_in b) : (lI a ≤ lI b) = (a ≤ b) := by rw [Int64.le_iff_toInt_le, lI_in h.1, lI_in h.2]
theorem iI_nat {a : Int} (h : 0 ≤ a ∧ a < 2147483648) : (((iI a).toNatClampNeg : Nat) : Int) = a := by
  show (((iI a).toInt.toNat : Nat) : Int) = a
  rw [iI_in ⟨by omega, by omega⟩]
  omega
theorem iI_natn {a : Int} (n : Nat) (h : a = n ∧ a < 2147483648) : (iI a).toNatClampNeg = n := by
  have := iI_nat (a := a) ⟨by omega, h.2⟩
  omega
theorem z_ix_t {a : Int} {n : Nat} (h : 0 ≤ a ∧ a < n ∧ n < 2147483648) : z_ix (iI a) n = true := by
  unfold z_ix
  have h0 : (0 : Int32) = iI 0 := rfl
  have h1 := iI_nat (a := a) ⟨h.1, by omega⟩
  rw [Bool.and_eq_true, decide_eq_true_eq, decide_eq_true_eq, h0, iI_le ⟨⟨by omega, by omega⟩, ⟨by omega, by omega⟩⟩]
  omega
/-- other operations, as functions of integers -/
def i_and (a b : Int) : Int := (iI a &&& iI b).toInt
def i_or (a b : Int) : Int := (iI a ||| iI b).toInt
def i_xor (a b : Int) : Int := (iI a ^^^ iI b).toInt
def i_shl (a b : Int) : Int := (iI a <<< (iI b &&& 31)).toInt
def i_shr (a b : Int) : Int := (iI a >>> (iI b &&& 31)).toInt
def i_div (a b : Int) : Int := (iI a / iI b).toInt
def i_w (a : Int) : Int := (iI a).toInt
def i_b (a : Int) : Int := (iI a).toInt8.toInt
def i_c (a : Int) : Int := ((iI a).toUInt32 % 65536).toInt32.toInt
def i_ushr (a b : Int) : Int := ((iI a).toUInt32 >>> ((iI b).toUInt32 &&& Int32.toUInt32 31)).toInt32.toInt
theorem iI_and (a b : Int) : iI a &&& iI b = iI (i_and a b) := (iI_toInt _).symm
theorem iI_or (a b : Int) : iI a ||| iI b = iI (i_or a b) := (iI_toInt _).symm
theorem iI_xor (a b : Int) : iI a ^^^ iI b = iI (i_xor a b) := (iI_toInt _).symm
theorem iI_shl (a b : Int) : iI a <<< iI (i_and b 31) = iI (i_shl a b) := by
  rw [← iI_and]; exact (iI_toInt _).symm
theorem iI_shr (a b : Int) : iI a >>> iI (i_and b 31) = iI (i_shr a b) := by
  rw [← iI_and]; exact (iI_toInt _).symm
theorem iI_ushr (a b : Int) : ((iI a).toUInt32 >>> ((iI b).toUInt32 &&& (iI 31).toUInt32)).toInt32 = iI (i_ushr a b) := (iI_toInt _).symm
theorem iI_div (a b : Int) : iI a / iI b = iI (i_div a b) := (iI_toInt _).symm
theorem iI_b (a : Int) : (iI a).toInt8.toInt32 = iI (i_b a) := by
  apply Int32.toInt.inj
  unfold i_b
  rw [iI_in ⟨by have := (iI a).toInt8.le_toInt; omega, by have := (iI a).toInt8.toInt_lt; omega⟩]
  exact Int8.toInt_toInt32 _
theorem iI_c (a : Int) : ((iI a).toUInt32 % 65536).toInt32 = iI (i_c a) := (iI_toInt _).symm
theorem iI_i2l (a : Int) : (iI a).toInt64 = lI (i_w a) := by
  apply Int64.toInt.inj
  have h := i_tin (iI a)
  unfold i_w
  rw [lI_in ⟨by omega, by omega⟩]
  exact Int32.toInt_toInt64 _
theorem lI_l2i (a : Int) : (lI a).toInt32 = iI a := by
  unfold lI iI
  exact Int64.toInt32_ofInt
theorem i_w_in {a : Int} (h : i_in a) : i_w a = a := iI_in h
theorem nI_iI (n : Nat) : nI n = iI n := (Int32.ofInt_eq_ofNat).symm
def l_div (a b : Int) : Int := (lI a / lI b).toInt
def l_or (a b : Int) : Int := (lI a ||| lI b).toInt
def l_shl (a b : Int) : Int := (lI a <<< ((iI b).toInt64 &&& 63)).toInt
def l_shr (a b : Int) : Int := (lI a >>> ((iI b).toInt64 &&& 63)).toInt
theorem lI_div (a b : Int) : lI a / lI b = lI (l_div a b) := (lI_toInt _).symm
theorem lI_or (a b : Int) : lI a ||| lI b = lI (l_or a b) := (lI_toInt _).symm
def l_and (a b : Int) : Int := (lI a &&& lI b).toInt
theorem lI_and (a b : Int) : lI a &&& lI b = lI (l_and a b) := (lI_toInt _).symm
theorem lI_shl (a b : Int) : lI a <<< lI (l_and (i_w b) 63) = lI (l_shl a b) := by
  rw [← lI_and, ← iI_i2l]; exact (lI_toInt _).symm
theorem lI_shr (a b : Int) : lI a >>> lI (l_and (i_w b) 63) = lI (l_shr a b) := by
  rw [← lI_and, ← iI_i2l]; exact (lI_toInt _).symm
theorem i_div_in {a b : Int} (ha : i_in a) (hb : i_in b) (h : b ≠ -1) : i_div a b = a.tdiv b := by
  unfold i_div
  rw [Int32.toInt_div_of_ne_right _ _ (fun e => h ?_), iI_in ha, iI_in hb]
  have h1 : (-1 : Int32) = iI (-1) := rfl
  rw [h1] at e
  exact iI_inj hb ⟨by omega, by omega⟩ e
theorem l_div_in {a b : Int} (ha : l_in a) (hb : l_in b) (h : b ≠ -1) : l_div a b = a.tdiv b := by
  unfold l_div
  rw [Int64.toInt_div_of_ne_right _ _ (fun e => h ?_), lI_in ha, lI_in hb]
  have h1 : (-1 : Int64) = lI (-1) := rfl
  rw [h1] at e
  exact lI_inj hb ⟨by omega, by omega⟩ e
theorem lg_lt0 (x y : Int64) : (lg_cmp x y < iI 0) = (x < y) := by
  have h0 : iI 0 = (0 : Int32) := rfl
  rw [h0]
  unfold lg_cmp
  apply propext
  by_cases h : x > y
  · rw [if_pos h]
    exact ⟨fun q => absurd q (by decide), fun q => absurd q (by have h' : y < x := h; rw [Int64.lt_iff_toInt_lt] at q h'; rw [Int64.lt_iff_toInt_lt]; omega)⟩
  · rw [if_neg h]
    by_cases h2 : x = y
    · rw [if_pos h2]
      exact ⟨fun q => absurd q (by decide), fun q => absurd q (by rw [h2, Int64.lt_iff_toInt_lt]; omega)⟩
    · rw [if_neg h2]
      refine ⟨fun _ => ?_, fun _ => by decide⟩
      have : x.toInt ≠ y.toInt := fun e => h2 (Int64.toInt.inj e)
      have h3 : ¬ (y < x) := h
      rw [Int64.lt_iff_toInt_lt] at h3 ⊢
      omega
theorem lg_gt0 (x y : Int64) : (iI 0 < lg_cmp x y) = (y < x) := by
  have h0 : iI 0 = (0 : Int32) := rfl
  rw [h0]
  unfold lg_cmp
  apply propext
  by_cases h : x > y
  · rw [if_pos h]
    exact ⟨fun _ => h, fun _ => by decide⟩
  · rw [if_neg h]
    by_cases h2 : x = y
    · rw [if_pos h2]
      exact ⟨fun q => absurd q (by decide), fun q => absurd q h⟩
    · rw [if_neg h2]
      exact ⟨fun q => absurd q (by decide), fun q => absurd q h⟩
theorem lg_eq0 (x y : Int64) : (lg_cmp x y = iI 0) = (x = y) := by
  have h0 : iI 0 = (0 : Int32) := rfl
  rw [h0]
  unfold lg_cmp
  apply propext
  by_cases h : x > y
  · rw [if_pos h]
    exact ⟨fun q => absurd q (by decide), fun q => absurd h (by rw [q]; intro h; rw [gt_iff_lt, Int64.lt_iff_toInt_lt] at h; omega)⟩
  · rw [if_neg h]
    by_cases h2 : x = y
    · rw [if_pos h2]
      exact ⟨fun _ => h2, fun _ => rfl⟩
    · rw [if_neg h2]
      exact ⟨fun q => absurd q (by decide), fun q => absurd q h2⟩
/-- truth as a number -/
def zb (b : Bool) : Int := cond b 1 0
theorem zb_t : zb true = 1 := rfl
theorem zb_f : zb false = 0 := rfl
theorem zb_0 (b : Bool) : (iI (zb b) = iI 0) = (b = false) := by
  cases b
  · exact propext ⟨fun _ => rfl, fun _ => rfl⟩
  · exact propext ⟨fun h => absurd h (by decide), fun h => by cases h⟩
theorem zb_fit (b : Bool) : z_fit 1 (iI (zb b)) = true := by cases b <;> decide
theorem zb_fit0 : z_fit 1 (iI 0) = true := by decide
theorem zb_fit1 : z_fit 1 (iI 1) = true := by decide
theorem zb_in (b : Bool) : 0 ≤ zb b ∧ zb b ≤ 1 := by cases b <;> decide
theorem i_one_zero : (iI 1 = iI 0) = False := by rw [iI_eq ⟨⟨by omega, by omega⟩, ⟨by omega, by omega⟩⟩]; simp
theorem i_zero_zero : (iI 0 = iI 0) = True := by simp
/-! the way of the machine's texts -/
theorem z_x_eq {α : Type} (e : α) (f : α → ZR) : z_x e f = f e := rfl
theorem z_g_t (x : ZR) : z_g true x = x := rfl
theorem z_bI_s (v : Int32) (σ : ZM) (f : Int32 → ZM → ZR) : z_bI (some (vi v, σ)) f = f v σ := rfl
theorem z_bL_s (v : Int64) (σ : ZM) (f : Int64 → ZM → ZR) : z_bL (some (vl v, σ)) f = f v σ := rfl
theorem z_bR_s (v : Nat) (σ : ZM) (f : Nat → ZM → ZR) : z_bR (some (vr v, σ)) f = f v σ := rfl
theorem z_bV_s (v : Int32) (σ : ZM) (f : ZM → ZR) : z_bV (some (vi v, σ)) f = f σ := rfl
theorem sI {a b : Int} {σ : ZM} (h : a = b) : (some (vi (iI a), σ) : ZR) = some (vi (iI b), σ) := by rw [h]
theorem sL {a b : Int} {σ : ZM} (h : a = b) : (some (vl (lI a), σ) : ZR) = some (vl (lI b), σ) := by rw [h]
theorem i_ne0 {b : Int} (h : i_in b ∧ b ≠ 0) : (iI b == 0) = false := beq_false_of_ne (fun e => h.2 (iI_inj h.1 (b := 0) ⟨by omega, by omega⟩ e))
theorem l_ne0 {b : Int} (h : l_in b ∧ b ≠ 0) : (lI b == 0) = false := beq_false_of_ne (fun e => h.2 (lI_inj h.1 (b := 0) ⟨by omega, by omega⟩ e))
theorem i_ne0' {b : Int} (h : i_in b ∧ b ≠ 0) : (iI b == iI 0) = false := i_ne0 h
theorem l_ne0' {b : Int} (h : l_in b ∧ b ≠ 0) : (lI b == lI 0) = false := l_ne0 h
/-- it ends, and then Q -/
def z_ok (x : ZR) (Q : ZV → ZM → Prop) : Prop := ∃ v τ, x = some (v, τ) ∧ Q v τ
theorem ok_ret {v : ZV} {τ : ZM} {Q : ZV → ZM → Prop} (h : Q v τ) : z_ok (some (v, τ)) Q := ⟨v, τ, rfl, h⟩
theorem ok_if {c : Prop} [Decidable c] {x y : ZR} {Q : ZV → ZM → Prop} (h : c → z_ok x Q) (h2 : ¬ c → z_ok y Q) : z_ok (if c then x else y) Q := by
  by_cases hc : c
  · rw [if_pos hc]; exact h hc
  · rw [if_neg hc]; exact h2 hc
theorem ok_mono {x : ZR} {P Q : ZV → ZM → Prop} (h : z_ok x P) (k : ∀ v τ, P v τ → Q v τ) : z_ok x Q := by
  obtain ⟨v, τ, e, p⟩ := h
  exact ⟨v, τ, e, k v τ p⟩
theorem ok_bI {x : ZR} {f : Int32 → ZM → ZR} {P : Int32 → ZM → Prop} {Q : ZV → ZM → Prop} (h : z_ok x (fun v τ => ∃ i, v = vi i ∧ P i τ)) (k : ∀ i τ, P i τ → z_ok (f i τ) Q) : z_ok (z_bI x f) Q := by
  obtain ⟨v, τ, e, i, rfl, p⟩ := h
  rw [e]; exact k i τ p
theorem ok_bL {x : ZR} {f : Int64 → ZM → ZR} {P : Int64 → ZM → Prop} {Q : ZV → ZM → Prop} (h : z_ok x (fun v τ => ∃ i, v = vl i ∧ P i τ)) (k : ∀ i τ, P i τ → z_ok (f i τ) Q) : z_ok (z_bL x f) Q := by
  obtain ⟨v, τ, e, i, rfl, p⟩ := h
  rw [e]; exact k i τ p
theorem ok_bV {x : ZR} {f : ZM → ZR} {P : ZM → Prop} {Q : ZV → ZM → Prop} (h : z_ok x (fun v τ => ∃ i, v = vi i ∧ P τ)) (k : ∀ τ, P τ → z_ok (f τ) Q) : z_ok (z_bV x f) Q := by
  obtain ⟨v, τ, e, i, rfl, p⟩ := h
  rw [e]; exact k τ p
/-! numbers as they stand in the texts -/
theorem z_lit0 : (0 : Int32) = iI 0 ∧ (1 : Int32) = iI 1 ∧ (2 : Int32) = iI 2 ∧ (3 : Int32) = iI 3 ∧ (4 : Int32) = iI 4 ∧ (5 : Int32) = iI 5 ∧ (6 : Int32) = iI 6 ∧ (7 : Int32) = iI 7 ∧ (8 : Int32) = iI 8 ∧ (9 : Int32) = iI 9 ∧ (10 : Int32) = iI 10 ∧ (11 : Int32) = iI 11 ∧ (12 : Int32) = iI 12 ∧ (13 : Int32) = iI 13 ∧ (14 : Int32) = iI 14 ∧ (15 : Int32) = iI 15 ∧ (16 : Int32) = iI 16 ∧ (17 : Int32) = iI 17 ∧ (18 : Int32) = iI 18 ∧ (19 : Int32) = iI 19 ∧ (20 : Int32) = iI 20 ∧ (21 : Int32) = iI 21 ∧ (22 : Int32) = iI 22 ∧ (23 : Int32) = iI 23 ∧ (24 : Int32) = iI 24 ∧ (25 : Int32) = iI 25 ∧ (26 : Int32) = iI 26 ∧ (27 : Int32) = iI 27 ∧ (28 : Int32) = iI 28 ∧ (29 : Int32) = iI 29 ∧ (30 : Int32) = iI 30 ∧ (31 : Int32) = iI 31 ∧ (32 : Int32) = iI 32 ∧ (33 : Int32) = iI 33 ∧ (34 : Int32) = iI 34 ∧ (35 : Int32) = iI 35 ∧ (36 : Int32) = iI 36 ∧ (37 : Int32) = iI 37 ∧ (38 : Int32) = iI 38 ∧ (39 : Int32) = iI 39 ∧ (40 : Int32) = iI 40 ∧ (41 : Int32) = iI 41 ∧ (42 : Int32) = iI 42 ∧ (43 : Int32) = iI 43 ∧ (44 : Int32) = iI 44 ∧ (45 : Int32) = iI 45 ∧ (46 : Int32) = iI 46 ∧ (47 : Int32) = iI 47 ∧ (48 : Int32) = iI 48 ∧ (49 : Int32) = iI 49 := ⟨rfl, rfl, rfl, rfl, rfl, rfl, rfl, rfl, rfl, rfl, rfl, rfl, rfl, rfl, rfl, rfl, rfl, rfl, rfl, rfl, rfl, rfl, rfl, rfl, rfl, rfl, rfl, rfl, rfl, rfl, rfl, rfl, rfl, rfl, rfl, rfl, rfl, rfl, rfl, rfl, rfl, rfl, rfl, rfl, rfl, rfl, rfl, rfl, rfl, rfl⟩
theorem z_lit1 : (50 : Int32) = iI 50 ∧ (51 : Int32) = iI 51 ∧ (52 : Int32) = iI 52 ∧ (53 : Int32) = iI 53 ∧ (54 : Int32) = iI 54 ∧ (55 : Int32) = iI 55 ∧ (56 : Int32) = iI 56 ∧ (57 : Int32) = iI 57 ∧ (58 : Int32) = iI 58 ∧ (59 : Int32) = iI 59 ∧ (60 : Int32) = iI 60 ∧ (61 : Int32) = iI 61 ∧ (62 : Int32) = iI 62 ∧ (63 : Int32) = iI 63 ∧ (64 : Int32) = iI 64 ∧ (65 : Int32) = iI 65 ∧ (71 : Int32) = iI 71 ∧ (82 : Int32) = iI 82 ∧ (90 : Int32) = iI 90 ∧ (97 : Int32) = iI 97 ∧ (98 : Int32) = iI 98 ∧ (99 : Int32) = iI 99 ∧ (100 : Int32) = iI 100 ∧ (101 : Int32) = iI 101 ∧ (103 : Int32) = iI 103 ∧ (104 : Int32) = iI 104 ∧ (105 : Int32) = iI 105 ∧ (106 : Int32) = iI 106 ∧ (107 : Int32) = iI 107 ∧ (108 : Int32) = iI 108 ∧ (109 : Int32) = iI 109 ∧ (110 : Int32) = iI 110 ∧ (111 : Int32) = iI 111 ∧ (112 : Int32) = iI 112 ∧ (114 : Int32) = iI 114 ∧ (115 : Int32) = iI 115 ∧ (116 : Int32) = iI 116 ∧ (117 : Int32) = iI 117 ∧ (119 : Int32) = iI 119 ∧ (120 : Int32) = iI 120 ∧ (122 : Int32) = iI 122 ∧ (146 : Int32) = iI 146 ∧ (162 : Int32) = iI 162 ∧ (173 : Int32) = iI 173 ∧ (186 : Int32) = iI 186 ∧ (200 : Int32) = iI 200 ∧ (251 : Int32) = iI 251 ∧ (255 : Int32) = iI 255 ∧ (277 : Int32) = iI 277 ∧ (280 : Int32) = iI 280 := ⟨rfl, rfl, rfl, rfl, rfl, rfl, rfl, rfl, rfl, rfl, rfl, rfl, rfl, rfl, rfl, rfl, rfl, rfl, rfl, rfl, rfl, rfl, rfl, rfl, rfl, rfl, rfl, rfl, rfl, rfl, rfl, rfl, rfl, rfl, rfl, rfl, rfl, rfl, rfl, rfl, rfl, rfl, rfl, rfl, rfl, rfl, rfl, rfl, rfl, rfl⟩
theorem z_lit2 : (300 : Int32) = iI 300 ∧ (705 : Int32) = iI 705 ∧ (999 : Int32) = iI 999 ∧ (1000 : Int32) = iI 1000 ∧ (1885 : Int32) = iI 1885 ∧ (2136 : Int32) = iI 2136 ∧ (9999 : Int32) = iI 9999 ∧ (10000 : Int32) = iI 10000 ∧ (30271 : Int32) = iI 30271 ∧ (65535 : Int32) = iI 65535 ∧ (99999 : Int32) = iI 99999 ∧ (100000 : Int32) = iI 100000 ∧ (252645135 : Int32) = iI 252645135 ∧ (858993459 : Int32) = iI 858993459 ∧ (1431655765 : Int32) = iI 1431655765 := ⟨rfl, rfl, rfl, rfl, rfl, rfl, rfl, rfl, rfl, rfl, rfl, rfl, rfl, rfl, rfl⟩
theorem z_litl : (0 : Int64) = lI 0 ∧ (1 : Int64) = lI 1 ∧ (10 : Int64) = lI 10 ∧ (63 : Int64) = lI 63 ∧ (1000000 : Int64) = lI 1000000 ∧ (1152921504606846976 : Int64) = lI 1152921504606846976 := ⟨rfl, rfl, rfl, rfl, rfl, rfl⟩

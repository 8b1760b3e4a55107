/-! THE PURE PART, 123: the memory behind the constructors (printed by gen/con99c.py) -/
theorem o_M_c (d : Nat) (σ : ZM) (hs : z_sz σ = 81) (hk : z_kd σ 80 = 12) : z_call (d + 3) 15 [vr 80] σ = z_bV (z_call (d + 2) 14 [vr 81, vr 82] (c_do o_M σ)) (fun τ => some (vi 0, τ)) := by
  have ob := fun σ => zc_obj (d + 1) (r := 80) σ ⟨by decide, by decide⟩
  have t4 : (4 : Int32).toNatClampNeg = 4 := rfl
  have t6 : (6 : Int32).toNatClampNeg = 6 := rfl
  have i4 : z_ix (4 : Int32) 2136 = true := by decide
  have i6 : z_ix (6 : Int32) 2136 = true := by decide
  have b1 : Nat.ble 10 81 = true := rfl
  rw [e_M_init, ob]
  simp (disch := first | (simp only [zs_ui, zs_ur, zs_al, hs, Nat.reduceAdd]; done) | (simp only [zs_ui, zs_ur, zs_al, hs, Nat.reduceAdd]; omega) | (constructor <;> decide) | (left; decide) | (right; decide)) only [z_at, zk_ui, zk_ur, zk_al, zk_an, zl_ui, zl_ur, zl_al, zl_an, zs_ui, zs_ur, zs_al, zr_ui, zr_uh, zr_un, zr_al, hs, hk, t4, t6, i4, i6, b1, Nat.reduceAdd, Nat.reduceBEq, Bool.and_self, beq_self_eq_true, z_g_t, ↓z_x_eq, z_bV_s]
  rfl
def o_all : List ZO := [(0, 11, 0, 15)] ++ (o_B ++ ([(0, 12, 0, 38)] ++ o_M))
def T00 : ZT := ((fun _ => (0, 0)), (fun _ _ => 0), 0, 0)
def c_rb : List ZO → Bool
  | [] => true
  | (0, _) :: os => c_rb os
  | (1, _) :: os => c_rb os
  | (_, r, k, _) :: os => Nat.ble 10 r && Nat.blt k 40 && c_rb os
def c_ib : List ZO → Bool
  | [] => true
  | (1, r, _) :: os => Nat.ble 10 r && c_ib os
  | _ :: os => c_ib os
theorem c_r_hi {a k : Nat} (hk : 40 ≤ k) : ∀ (os : List ZO) (n : Nat), c_rb os = true → c_r os n a k = c_r os n a 40
  | [], _, _ => rfl
  | (0, kd, len, x) :: os, n, h => by
    show (match c_r os (n + 1) a k with | some q => some q | none => cond (Nat.beq a n) (some 0) none) = (match c_r os (n + 1) a 40 with | some q => some q | none => cond (Nat.beq a n) (some 0) none)
    rw [c_r_hi hk os (n + 1) h]
  | (1, r, j, x) :: os, n, h => c_r_hi hk os n h
  | (m + 2, r, j, x) :: os, n, h => by
    have h' : (Nat.ble 10 r && Nat.blt j 40 && c_rb os) = true := h
    rw [Bool.and_eq_true, Bool.and_eq_true] at h'
    have hj : j < 40 := Nat.le_of_ble_eq_true h'.1.2
    show (match c_r os n a k with | some q => some q | none => cond (Nat.beq a r && Nat.beq k j) (some x.toNat) none) = (match c_r os n a 40 with | some q => some q | none => cond (Nat.beq a r && Nat.beq 40 j) (some x.toNat) none)
    rw [c_r_hi hk os n h'.2, n_beq (a := k), n_beq (a := 40), decide_eq_false (show ¬ k = j by omega), decide_eq_false (show ¬ 40 = j by omega)]
theorem c_r_lo {a k : Nat} (ha : a < 10) : ∀ (os : List ZO) (n : Nat), 10 ≤ n → c_rb os = true → c_r os n a k = none
  | [], _, _, _ => rfl
  | (0, kd, len, x) :: os, n, hn, h => by
    show (match c_r os (n + 1) a k with | some q => some q | none => cond (Nat.beq a n) (some 0) none) = none
    rw [c_r_lo ha os (n + 1) (by omega) h, n_beq, decide_eq_false (by omega)]; rfl
  | (1, r, j, x) :: os, n, hn, h => c_r_lo ha os n hn h
  | (m + 2, r, j, x) :: os, n, hn, h => by
    have h' : (Nat.ble 10 r && Nat.blt j 40 && c_rb os) = true := h
    rw [Bool.and_eq_true, Bool.and_eq_true] at h'
    have hr : 10 ≤ r := Nat.le_of_ble_eq_true h'.1.1
    show (match c_r os n a k with | some q => some q | none => cond (Nat.beq a r && Nat.beq k j) (some x.toNat) none) = none
    rw [c_r_lo ha os n hn h'.2, n_beq (a := a), decide_eq_false (show ¬ a = r by omega)]; rfl
theorem c_i_lo {a k : Nat} (ha : a < 10) : ∀ (os : List ZO) (n : Nat), 10 ≤ n → c_ib os = true → c_i os n a k = none
  | [], _, _, _ => rfl
  | (0, kd, len, x) :: os, n, hn, h => by
    show (match c_i os (n + 1) a k with | some q => some q | none => cond (Nat.beq a n) (some 0) none) = none
    rw [c_i_lo ha os (n + 1) (by omega) h, n_beq, decide_eq_false (by omega)]; rfl
  | (1, r, j, x) :: os, n, hn, h => by
    have h' : (Nat.ble 10 r && c_ib os) = true := h
    rw [Bool.and_eq_true] at h'
    have hr : 10 ≤ r := Nat.le_of_ble_eq_true h'.1
    show (match c_i os n a k with | some q => some q | none => cond (Nat.beq a r && Nat.beq k j) (some x) none) = none
    rw [c_i_lo ha os n hn h'.2, n_beq (a := a), decide_eq_false (show ¬ a = r by omega)]; rfl
  | (m + 2, r, j, x) :: os, n, hn, h => c_i_lo ha os n hn h
theorem o_all_rb : c_rb o_all = true := by decide +kernel
theorem o_all_ib : c_ib o_all = true := by decide +kernel
theorem o_all_n : c_na o_all = 88 := by decide +kernel
theorem o_all_s : c_ns o_all ≤ 20000 := by decide +kernel
theorem o_all_k0 : ∀ r : Nat, r < 10 → c_k o_all 10 r = none := by decide +kernel
theorem o_all_k : ∀ r : Nat, r < 98 → 10 ≤ r → c_k o_all 10 r = some (z_kt T00 r) := by decide +kernel
theorem c_r_nr {a : Nat} (k : Nat) : ∀ (os : List ZO) (n : Nat), c_nr a os = true → c_r os n a k = c_r os n a 40
  | [], _, _ => rfl
  | (0, kd, len, x) :: os, n, h => by
    show (match c_r os (n + 1) a k with | some q => some q | none => cond (Nat.beq a n) (some 0) none) = (match c_r os (n + 1) a 40 with | some q => some q | none => cond (Nat.beq a n) (some 0) none)
    rw [c_r_nr k os (n + 1) h]
  | (1, r, j, x) :: os, n, h => c_r_nr k os n h
  | (m + 2, r, j, x) :: os, n, h => by
    have h' : (!(Nat.beq a r) && c_nr a os) = true := h
    rw [Bool.and_eq_true] at h'
    have hr : Nat.beq a r = false := by
      cases q : Nat.beq a r with
      | false => rfl
      | true => rw [q] at h'; exact absurd h'.1 (by decide)
    show (match c_r os n a k with | some q => some q | none => cond (Nat.beq a r && Nat.beq k j) (some x.toNat) none) = (match c_r os n a 40 with | some q => some q | none => cond (Nat.beq a r && Nat.beq 40 j) (some x.toNat) none)
    rw [c_r_nr k os n h'.2, hr]; rfl
theorem o_all_r40 : ∀ r : Nat, r < 98 → 10 ≤ r → c_r o_all 10 r 40 = some 0 := by decide +kernel
theorem o_all_r10 : ∀ k : Nat, k < 40 → c_r o_all 10 10 k = some (z_rt T00 10 k) := by decide +kernel
theorem o_all_r11 : ∀ k : Nat, k < 40 → c_r o_all 10 11 k = some (z_rt T00 11 k) := by decide +kernel
theorem o_all_r20 : ∀ k : Nat, k < 40 → c_r o_all 10 20 k = some (z_rt T00 20 k) := by decide +kernel
theorem o_all_r25 : ∀ k : Nat, k < 40 → c_r o_all 10 25 k = some (z_rt T00 25 k) := by decide +kernel
theorem o_all_r27 : ∀ k : Nat, k < 40 → c_r o_all 10 27 k = some (z_rt T00 27 k) := by decide +kernel
theorem o_all_r33 : ∀ k : Nat, k < 40 → c_r o_all 10 33 k = some (z_rt T00 33 k) := by decide +kernel
theorem o_all_r42 : ∀ k : Nat, k < 40 → c_r o_all 10 42 k = some (z_rt T00 42 k) := by decide +kernel
theorem o_all_r47 : ∀ k : Nat, k < 40 → c_r o_all 10 47 k = some (z_rt T00 47 k) := by decide +kernel
theorem o_all_r49 : ∀ k : Nat, k < 40 → c_r o_all 10 49 k = some (z_rt T00 49 k) := by decide +kernel
theorem o_all_r56 : ∀ k : Nat, k < 40 → c_r o_all 10 56 k = some (z_rt T00 56 k) := by decide +kernel
theorem o_all_r61 : ∀ k : Nat, k < 40 → c_r o_all 10 61 k = some (z_rt T00 61 k) := by decide +kernel
theorem o_all_r65 : ∀ k : Nat, k < 40 → c_r o_all 10 65 k = some (z_rt T00 65 k) := by decide +kernel
theorem o_all_r66 : ∀ k : Nat, k < 40 → c_r o_all 10 66 k = some (z_rt T00 66 k) := by decide +kernel
theorem o_all_r70 : ∀ k : Nat, k < 40 → c_r o_all 10 70 k = some (z_rt T00 70 k) := by decide +kernel
theorem o_all_r80 : ∀ k : Nat, k < 40 → c_r o_all 10 80 k = some (z_rt T00 80 k) := by decide +kernel
theorem o_all_nr : ∀ r : Nat, r < 98 → 10 ≤ r → (([10, 11, 20, 25, 27, 33, 42, 47, 49, 56, 61, 65, 66, 70, 80] : List Nat).elem r || c_nr r o_all) = true := by decide +kernel
theorem kt_t0 (T : ZT) {r : Nat} (h : 10 ≤ r ∧ r < 32) : z_kt T r = z_kt T00 r := by
  rcases (show r = 10 ∨ r = 11 ∨ r = 12 ∨ r = 13 ∨ r = 14 ∨ r = 15 ∨ r = 16 ∨ r = 17 ∨ r = 18 ∨ r = 19 ∨ r = 20 ∨ r = 21 ∨ r = 22 ∨ r = 23 ∨ r = 24 ∨ r = 25 ∨ r = 26 ∨ r = 27 ∨ r = 28 ∨ r = 29 ∨ r = 30 ∨ r = 31 by omega) with rfl | rfl | rfl | rfl | rfl | rfl | rfl | rfl | rfl | rfl | rfl | rfl | rfl | rfl | rfl | rfl | rfl | rfl | rfl | rfl | rfl | rfl <;> rfl
theorem kt_t1 (T : ZT) {r : Nat} (h : 32 ≤ r ∧ r < 54) : z_kt T r = z_kt T00 r := by
  rcases (show r = 32 ∨ r = 33 ∨ r = 34 ∨ r = 35 ∨ r = 36 ∨ r = 37 ∨ r = 38 ∨ r = 39 ∨ r = 40 ∨ r = 41 ∨ r = 42 ∨ r = 43 ∨ r = 44 ∨ r = 45 ∨ r = 46 ∨ r = 47 ∨ r = 48 ∨ r = 49 ∨ r = 50 ∨ r = 51 ∨ r = 52 ∨ r = 53 by omega) with rfl | rfl | rfl | rfl | rfl | rfl | rfl | rfl | rfl | rfl | rfl | rfl | rfl | rfl | rfl | rfl | rfl | rfl | rfl | rfl | rfl | rfl <;> rfl
theorem kt_t2 (T : ZT) {r : Nat} (h : 54 ≤ r ∧ r < 76) : z_kt T r = z_kt T00 r := by
  rcases (show r = 54 ∨ r = 55 ∨ r = 56 ∨ r = 57 ∨ r = 58 ∨ r = 59 ∨ r = 60 ∨ r = 61 ∨ r = 62 ∨ r = 63 ∨ r = 64 ∨ r = 65 ∨ r = 66 ∨ r = 67 ∨ r = 68 ∨ r = 69 ∨ r = 70 ∨ r = 71 ∨ r = 72 ∨ r = 73 ∨ r = 74 ∨ r = 75 by omega) with rfl | rfl | rfl | rfl | rfl | rfl | rfl | rfl | rfl | rfl | rfl | rfl | rfl | rfl | rfl | rfl | rfl | rfl | rfl | rfl | rfl | rfl <;> rfl
theorem kt_t3 (T : ZT) {r : Nat} (h : 76 ≤ r ∧ r < 98) : z_kt T r = z_kt T00 r := by
  rcases (show r = 76 ∨ r = 77 ∨ r = 78 ∨ r = 79 ∨ r = 80 ∨ r = 81 ∨ r = 82 ∨ r = 83 ∨ r = 84 ∨ r = 85 ∨ r = 86 ∨ r = 87 ∨ r = 88 ∨ r = 89 ∨ r = 90 ∨ r = 91 ∨ r = 92 ∨ r = 93 ∨ r = 94 ∨ r = 95 ∨ r = 96 ∨ r = 97 by omega) with rfl | rfl | rfl | rfl | rfl | rfl | rfl | rfl | rfl | rfl | rfl | rfl | rfl | rfl | rfl | rfl | rfl | rfl | rfl | rfl | rfl | rfl <;> rfl
theorem kt_all (T : ZT) {r : Nat} (h : 10 ≤ r ∧ r < 98) : z_kt T r = z_kt T00 r := by
  rcases (show r < 32 ∨ (32 ≤ r ∧ r < 54) ∨ (54 ≤ r ∧ r < 76) ∨ 76 ≤ r by omega) with q | q | q | q
  · exact kt_t0 T ⟨h.1, q⟩
  · exact kt_t1 T q
  · exact kt_t2 T q
  · exact kt_t3 T ⟨q, h.2⟩
theorem rt_h10 (T : ZT) {k : Nat} (h : 40 ≤ k) : z_rt T 10 k = 0 := by
  have hb : ∀ c, c < 40 → Nat.ble k c = false := fun c q => z_ble_hi (by omega)
  have he : ∀ c, c < 40 → Nat.beq k c = false := fun c q => z_beq_hi (by omega)
  show (cond (Nat.ble k 6) (cond (Nat.ble k 2) (cond (Nat.ble k 0) (cond (Nat.beq k 0) 11 0) (cond (Nat.ble k 1) (cond (Nat.beq k 1) 20 0) (cond (Nat.beq k 2) 25 0))) (cond (Nat.ble k 4) (cond (Nat.ble k 3) (cond (Nat.beq k 3) 27 0) (cond (Nat.beq k 4) 33 0)) (cond (Nat.ble k 5) (cond (Nat.beq k 5) 42 0) (cond (Nat.beq k 6) 47 0)))) (cond (Nat.ble k 10) (cond (Nat.ble k 7) (cond (Nat.beq k 7) 49 0) (cond (Nat.ble k 8) (cond (Nat.beq k 8) 55 0) (cond (Nat.beq k 10) 56 0))) (cond (Nat.ble k 12) (cond (Nat.ble k 11) (cond (Nat.beq k 11) 61 0) (cond (Nat.beq k 12) 65 0)) (cond (Nat.ble k 13) (cond (Nat.beq k 13) 66 0) (cond (Nat.beq k 14) 70 0))))) = 0
  simp (disch := omega) only [hb, he, cond_false]
theorem rt_l10 (T : ZT) (k : Nat) : z_rt T 10 k = z_rt T00 10 k := rfl
theorem rt_h11 (T : ZT) {k : Nat} (h : 40 ≤ k) : z_rt T 11 k = 0 := by
  have hb : ∀ c, c < 40 → Nat.ble k c = false := fun c q => z_ble_hi (by omega)
  have he : ∀ c, c < 40 → Nat.beq k c = false := fun c q => z_beq_hi (by omega)
  show (cond (Nat.ble k 5) (cond (Nat.ble k 2) (cond (Nat.ble k 1) (cond (Nat.beq k 1) 12 0) (cond (Nat.beq k 2) 13 0)) (cond (Nat.ble k 4) (cond (Nat.beq k 4) 14 0) (cond (Nat.beq k 5) 15 0))) (cond (Nat.ble k 8) (cond (Nat.ble k 6) (cond (Nat.beq k 6) 16 0) (cond (Nat.beq k 8) 17 0)) (cond (Nat.ble k 9) (cond (Nat.beq k 9) 18 0) (cond (Nat.beq k 11) 19 0)))) = 0
  simp (disch := omega) only [hb, he, cond_false]
theorem rt_l11 (T : ZT) (k : Nat) : z_rt T 11 k = z_rt T00 11 k := rfl
theorem rt_h20 (T : ZT) {k : Nat} (h : 40 ≤ k) : z_rt T 20 k = 0 := by
  have hb : ∀ c, c < 40 → Nat.ble k c = false := fun c q => z_ble_hi (by omega)
  have he : ∀ c, c < 40 → Nat.beq k c = false := fun c q => z_beq_hi (by omega)
  show (cond (Nat.ble k 1) (cond (Nat.ble k 0) (cond (Nat.beq k 0) 21 0) (cond (Nat.beq k 1) 22 0)) (cond (Nat.ble k 6) (cond (Nat.beq k 6) 23 0) (cond (Nat.beq k 7) 24 0))) = 0
  simp (disch := omega) only [hb, he, cond_false]
theorem rt_l20 (T : ZT) (k : Nat) : z_rt T 20 k = z_rt T00 20 k := rfl
theorem rt_h25 (T : ZT) {k : Nat} (h : 40 ≤ k) : z_rt T 25 k = 0 := by
  have hb : ∀ c, c < 40 → Nat.ble k c = false := fun c q => z_ble_hi (by omega)
  have he : ∀ c, c < 40 → Nat.beq k c = false := fun c q => z_beq_hi (by omega)
  show (cond (Nat.beq k 0) 26 0) = 0
  simp (disch := omega) only [hb, he, cond_false]
theorem rt_l25 (T : ZT) (k : Nat) : z_rt T 25 k = z_rt T00 25 k := rfl
theorem rt_h27 (T : ZT) {k : Nat} (h : 40 ≤ k) : z_rt T 27 k = 0 := by
  have hb : ∀ c, c < 40 → Nat.ble k c = false := fun c q => z_ble_hi (by omega)
  have he : ∀ c, c < 40 → Nat.beq k c = false := fun c q => z_beq_hi (by omega)
  show (cond (Nat.ble k 2) (cond (Nat.ble k 1) (cond (Nat.beq k 1) 28 0) (cond (Nat.beq k 2) 29 0)) (cond (Nat.ble k 4) (cond (Nat.beq k 4) 30 0) (cond (Nat.ble k 5) (cond (Nat.beq k 5) 31 0) (cond (Nat.beq k 6) 32 0)))) = 0
  simp (disch := omega) only [hb, he, cond_false]
theorem rt_l27 (T : ZT) (k : Nat) : z_rt T 27 k = z_rt T00 27 k := rfl
theorem rt_h33 (T : ZT) {k : Nat} (h : 40 ≤ k) : z_rt T 33 k = 0 := by
  have hb : ∀ c, c < 40 → Nat.ble k c = false := fun c q => z_ble_hi (by omega)
  have he : ∀ c, c < 40 → Nat.beq k c = false := fun c q => z_beq_hi (by omega)
  show (cond (Nat.ble k 5) (cond (Nat.ble k 2) (cond (Nat.ble k 1) (cond (Nat.beq k 1) 34 0) (cond (Nat.beq k 2) 35 0)) (cond (Nat.ble k 4) (cond (Nat.beq k 4) 36 0) (cond (Nat.beq k 5) 37 0))) (cond (Nat.ble k 8) (cond (Nat.ble k 6) (cond (Nat.beq k 6) 38 0) (cond (Nat.beq k 8) 39 0)) (cond (Nat.ble k 9) (cond (Nat.beq k 9) 40 0) (cond (Nat.beq k 11) 41 0)))) = 0
  simp (disch := omega) only [hb, he, cond_false]
theorem rt_l33 (T : ZT) (k : Nat) : z_rt T 33 k = z_rt T00 33 k := rfl
theorem rt_h42 (T : ZT) {k : Nat} (h : 40 ≤ k) : z_rt T 42 k = 0 := by
  have hb : ∀ c, c < 40 → Nat.ble k c = false := fun c q => z_ble_hi (by omega)
  have he : ∀ c, c < 40 → Nat.beq k c = false := fun c q => z_beq_hi (by omega)
  show (cond (Nat.ble k 1) (cond (Nat.ble k 0) (cond (Nat.beq k 0) 43 0) (cond (Nat.beq k 1) 44 0)) (cond (Nat.ble k 6) (cond (Nat.beq k 6) 45 0) (cond (Nat.beq k 7) 46 0))) = 0
  simp (disch := omega) only [hb, he, cond_false]
theorem rt_l42 (T : ZT) (k : Nat) : z_rt T 42 k = z_rt T00 42 k := rfl
theorem rt_h47 (T : ZT) {k : Nat} (h : 40 ≤ k) : z_rt T 47 k = 0 := by
  have hb : ∀ c, c < 40 → Nat.ble k c = false := fun c q => z_ble_hi (by omega)
  have he : ∀ c, c < 40 → Nat.beq k c = false := fun c q => z_beq_hi (by omega)
  show (cond (Nat.beq k 0) 48 0) = 0
  simp (disch := omega) only [hb, he, cond_false]
theorem rt_l47 (T : ZT) (k : Nat) : z_rt T 47 k = z_rt T00 47 k := rfl
theorem rt_h49 (T : ZT) {k : Nat} (h : 40 ≤ k) : z_rt T 49 k = 0 := by
  have hb : ∀ c, c < 40 → Nat.ble k c = false := fun c q => z_ble_hi (by omega)
  have he : ∀ c, c < 40 → Nat.beq k c = false := fun c q => z_beq_hi (by omega)
  show (cond (Nat.ble k 2) (cond (Nat.ble k 1) (cond (Nat.beq k 1) 50 0) (cond (Nat.beq k 2) 51 0)) (cond (Nat.ble k 4) (cond (Nat.beq k 4) 52 0) (cond (Nat.ble k 5) (cond (Nat.beq k 5) 53 0) (cond (Nat.beq k 6) 54 0)))) = 0
  simp (disch := omega) only [hb, he, cond_false]
theorem rt_l49 (T : ZT) (k : Nat) : z_rt T 49 k = z_rt T00 49 k := rfl
theorem rt_h56 (T : ZT) {k : Nat} (h : 40 ≤ k) : z_rt T 56 k = T.2.1 56 k := by
  have hb : ∀ c, c < 40 → Nat.ble k c = false := fun c q => z_ble_hi (by omega)
  have he : ∀ c, c < 40 → Nat.beq k c = false := fun c q => z_beq_hi (by omega)
  show (cond (Nat.ble k 1) (cond (Nat.ble k 0) (cond (Nat.beq k 0) 57 (T.2.1 56 k)) (cond (Nat.beq k 1) 58 (T.2.1 56 k))) (cond (Nat.ble k 5) (cond (Nat.beq k 5) 59 (T.2.1 56 k)) (cond (Nat.beq k 11) 60 (T.2.1 56 k)))) = T.2.1 56 k
  simp (disch := omega) only [hb, he, cond_false]
theorem rt_h61 (T : ZT) {k : Nat} (h : 40 ≤ k) : z_rt T 61 k = 0 := by
  have hb : ∀ c, c < 40 → Nat.ble k c = false := fun c q => z_ble_hi (by omega)
  have he : ∀ c, c < 40 → Nat.beq k c = false := fun c q => z_beq_hi (by omega)
  show (cond (Nat.ble k 1) (cond (Nat.ble k 0) (cond (Nat.beq k 0) 11 0) (cond (Nat.beq k 1) 20 0)) (cond (Nat.ble k 2) (cond (Nat.beq k 2) 62 0) (cond (Nat.ble k 3) (cond (Nat.beq k 3) 63 0) (cond (Nat.beq k 4) 64 0)))) = 0
  simp (disch := omega) only [hb, he, cond_false]
theorem rt_l61 (T : ZT) (k : Nat) : z_rt T 61 k = z_rt T00 61 k := rfl
theorem rt_h65 (T : ZT) {k : Nat} (h : 40 ≤ k) : z_rt T 65 k = 0 := by
  have hb : ∀ c, c < 40 → Nat.ble k c = false := fun c q => z_ble_hi (by omega)
  have he : ∀ c, c < 40 → Nat.beq k c = false := fun c q => z_beq_hi (by omega)
  show (cond (Nat.ble k 1) (cond (Nat.ble k 0) (cond (Nat.beq k 0) 11 0) (cond (Nat.beq k 1) 20 0)) (cond (Nat.ble k 2) (cond (Nat.beq k 2) 25 0) (cond (Nat.beq k 3) 61 0))) = 0
  simp (disch := omega) only [hb, he, cond_false]
theorem rt_l65 (T : ZT) (k : Nat) : z_rt T 65 k = z_rt T00 65 k := rfl
theorem rt_h66 (T : ZT) {k : Nat} (h : 40 ≤ k) : z_rt T 66 k = 0 := by
  have hb : ∀ c, c < 40 → Nat.ble k c = false := fun c q => z_ble_hi (by omega)
  have he : ∀ c, c < 40 → Nat.beq k c = false := fun c q => z_beq_hi (by omega)
  show (cond (Nat.ble k 2) (cond (Nat.ble k 0) (cond (Nat.beq k 0) 11 0) (cond (Nat.ble k 1) (cond (Nat.beq k 1) 20 0) (cond (Nat.beq k 2) 27 0))) (cond (Nat.ble k 4) (cond (Nat.ble k 3) (cond (Nat.beq k 3) 61 0) (cond (Nat.beq k 4) 67 0)) (cond (Nat.ble k 5) (cond (Nat.beq k 5) 68 0) (cond (Nat.beq k 6) 69 0)))) = 0
  simp (disch := omega) only [hb, he, cond_false]
theorem rt_l66 (T : ZT) (k : Nat) : z_rt T 66 k = z_rt T00 66 k := rfl
theorem rt_h70 (T : ZT) {k : Nat} (h : 40 ≤ k) : z_rt T 70 k = 0 := by
  have hb : ∀ c, c < 40 → Nat.ble k c = false := fun c q => z_ble_hi (by omega)
  have he : ∀ c, c < 40 → Nat.beq k c = false := fun c q => z_beq_hi (by omega)
  show (cond (Nat.ble k 5) (cond (Nat.ble k 2) (cond (Nat.ble k 0) (cond (Nat.beq k 0) 11 0) (cond (Nat.ble k 1) (cond (Nat.beq k 1) 20 0) (cond (Nat.beq k 2) 27 0))) (cond (Nat.ble k 3) (cond (Nat.beq k 3) 61 0) (cond (Nat.ble k 4) (cond (Nat.beq k 4) 71 0) (cond (Nat.beq k 5) 72 0)))) (cond (Nat.ble k 8) (cond (Nat.ble k 6) (cond (Nat.beq k 6) 73 0) (cond (Nat.ble k 7) (cond (Nat.beq k 7) 74 0) (cond (Nat.beq k 8) 75 0))) (cond (Nat.ble k 10) (cond (Nat.ble k 9) (cond (Nat.beq k 9) 76 0) (cond (Nat.beq k 10) 77 0)) (cond (Nat.ble k 11) (cond (Nat.beq k 11) 78 0) (cond (Nat.beq k 12) 79 0))))) = 0
  simp (disch := omega) only [hb, he, cond_false]
theorem rt_l70 (T : ZT) (k : Nat) : z_rt T 70 k = z_rt T00 70 k := rfl
theorem rt_h80 (T : ZT) {k : Nat} (h : 40 ≤ k) : z_rt T 80 k = 0 := by
  have hb : ∀ c, c < 40 → Nat.ble k c = false := fun c q => z_ble_hi (by omega)
  have he : ∀ c, c < 40 → Nat.beq k c = false := fun c q => z_beq_hi (by omega)
  show (cond (Nat.ble k 23) (cond (Nat.ble k 3) (cond (Nat.ble k 1) (cond (Nat.ble k 0) (cond (Nat.beq k 0) 81 0) (cond (Nat.beq k 1) 82 0)) (cond (Nat.ble k 2) (cond (Nat.beq k 2) 83 0) (cond (Nat.beq k 3) 84 0))) (cond (Nat.ble k 21) (cond (Nat.ble k 15) (cond (Nat.beq k 15) 85 0) (cond (Nat.beq k 21) 86 0)) (cond (Nat.ble k 22) (cond (Nat.beq k 22) 87 0) (cond (Nat.beq k 23) 88 0)))) (cond (Nat.ble k 29) (cond (Nat.ble k 27) (cond (Nat.ble k 26) (cond (Nat.beq k 26) 89 0) (cond (Nat.beq k 27) 90 0)) (cond (Nat.ble k 28) (cond (Nat.beq k 28) 91 0) (cond (Nat.beq k 29) 92 0))) (cond (Nat.ble k 32) (cond (Nat.ble k 30) (cond (Nat.beq k 30) 93 0) (cond (Nat.beq k 32) 94 0)) (cond (Nat.ble k 33) (cond (Nat.beq k 33) 95 0) (cond (Nat.ble k 34) (cond (Nat.beq k 34) 96 0) (cond (Nat.beq k 35) 97 0)))))) = 0
  simp (disch := omega) only [hb, he, cond_false]
theorem rt_l80 (T : ZT) (k : Nat) : z_rt T 80 k = z_rt T00 80 k := rfl
theorem rt_56 (T : ZT) {k : Nat} (h : k < 40) : z_rt T 56 k = z_rt T00 56 k ∨ z_rt T 56 k = T.2.1 56 k := by
  rcases (show k = 0 ∨ k = 1 ∨ k = 2 ∨ k = 3 ∨ k = 4 ∨ k = 5 ∨ k = 6 ∨ k = 7 ∨ k = 8 ∨ k = 9 ∨ k = 10 ∨ k = 11 ∨ k = 12 ∨ k = 13 ∨ k = 14 ∨ k = 15 ∨ k = 16 ∨ k = 17 ∨ k = 18 ∨ k = 19 ∨ k = 20 ∨ k = 21 ∨ k = 22 ∨ k = 23 ∨ k = 24 ∨ k = 25 ∨ k = 26 ∨ k = 27 ∨ k = 28 ∨ k = 29 ∨ k = 30 ∨ k = 31 ∨ k = 32 ∨ k = 33 ∨ k = 34 ∨ k = 35 ∨ k = 36 ∨ k = 37 ∨ k = 38 ∨ k = 39 by omega) with rfl | rfl | rfl | rfl | rfl | rfl | rfl | rfl | rfl | rfl | rfl | rfl | rfl | rfl | rfl | rfl | rfl | rfl | rfl | rfl | rfl | rfl | rfl | rfl | rfl | rfl | rfl | rfl | rfl | rfl | rfl | rfl | rfl | rfl | rfl | rfl | rfl | rfl | rfl | rfl <;> first | exact Or.inl rfl | exact Or.inr rfl
theorem rt_p0 (T : ZT) {r : Nat} (k : Nat) (h : r = 12 ∨ r = 13 ∨ r = 14 ∨ r = 15 ∨ r = 16 ∨ r = 17 ∨ r = 18 ∨ r = 21 ∨ r = 22 ∨ r = 23 ∨ r = 24 ∨ r = 26 ∨ r = 28 ∨ r = 29 ∨ r = 30 ∨ r = 31 ∨ r = 32 ∨ r = 34 ∨ r = 35 ∨ r = 36) : z_rt T r k = 0 := by
  rcases h with rfl | rfl | rfl | rfl | rfl | rfl | rfl | rfl | rfl | rfl | rfl | rfl | rfl | rfl | rfl | rfl | rfl | rfl | rfl | rfl <;> rfl
theorem rt_p1 (T : ZT) {r : Nat} (k : Nat) (h : r = 37 ∨ r = 38 ∨ r = 39 ∨ r = 40 ∨ r = 43 ∨ r = 44 ∨ r = 45 ∨ r = 46 ∨ r = 48 ∨ r = 50 ∨ r = 51 ∨ r = 52 ∨ r = 53 ∨ r = 54 ∨ r = 55 ∨ r = 57 ∨ r = 58 ∨ r = 59 ∨ r = 60 ∨ r = 62) : z_rt T r k = 0 := by
  rcases h with rfl | rfl | rfl | rfl | rfl | rfl | rfl | rfl | rfl | rfl | rfl | rfl | rfl | rfl | rfl | rfl | rfl | rfl | rfl | rfl <;> rfl
theorem rt_p2 (T : ZT) {r : Nat} (k : Nat) (h : r = 63 ∨ r = 64 ∨ r = 67 ∨ r = 68 ∨ r = 69 ∨ r = 71 ∨ r = 72 ∨ r = 73 ∨ r = 74 ∨ r = 75 ∨ r = 76 ∨ r = 77 ∨ r = 78 ∨ r = 79 ∨ r = 81 ∨ r = 82 ∨ r = 83 ∨ r = 84 ∨ r = 85 ∨ r = 86) : z_rt T r k = 0 := by
  rcases h with rfl | rfl | rfl | rfl | rfl | rfl | rfl | rfl | rfl | rfl | rfl | rfl | rfl | rfl | rfl | rfl | rfl | rfl | rfl | rfl <;> rfl
theorem rt_p3 (T : ZT) {r : Nat} (k : Nat) (h : r = 87 ∨ r = 88 ∨ r = 89 ∨ r = 90 ∨ r = 91 ∨ r = 92 ∨ r = 93 ∨ r = 94 ∨ r = 95 ∨ r = 96 ∨ r = 97) : z_rt T r k = 0 := by
  rcases h with rfl | rfl | rfl | rfl | rfl | rfl | rfl | rfl | rfl | rfl | rfl <;> rfl
/-- the references of the memory behind the constructors are the table's -/
theorem rt_all {T : ZT} {R0 : Nat → Nat → Nat} (hT : ∀ r k, T.2.1 r k = (c_r o_all 10 r k).getD (R0 r k)) {r : Nat} (h : 10 ≤ r ∧ r < 98) (k : Nat) : z_rt T r k = T.2.1 r k := by
  have hi : 40 ≤ k → T.2.1 r k = 0 := fun q => by rw [hT, c_r_hi q o_all 10 o_all_rb, o_all_r40 r h.2 h.1]; rfl
  by_cases p19 : r = 19
  · subst p19; rfl
  by_cases p41 : r = 41
  · subst p41; rfl
  by_cases p56 : r = 56
  · subst p56
    by_cases q : k < 40
    · rcases rt_56 T q with e | e
      · rw [e, hT, o_all_r56 k q]; rfl
      · exact e
    · exact rt_h56 T (by omega)
  by_cases p10 : r = 10
  · subst p10
    by_cases q : k < 40
    · rw [hT, o_all_r10 k q]; exact rt_l10 T k
    · rw [hi (by omega)]; exact rt_h10 T (by omega)
  by_cases p11 : r = 11
  · subst p11
    by_cases q : k < 40
    · rw [hT, o_all_r11 k q]; exact rt_l11 T k
    · rw [hi (by omega)]; exact rt_h11 T (by omega)
  by_cases p20 : r = 20
  · subst p20
    by_cases q : k < 40
    · rw [hT, o_all_r20 k q]; exact rt_l20 T k
    · rw [hi (by omega)]; exact rt_h20 T (by omega)
  by_cases p25 : r = 25
  · subst p25
    by_cases q : k < 40
    · rw [hT, o_all_r25 k q]; exact rt_l25 T k
    · rw [hi (by omega)]; exact rt_h25 T (by omega)
  by_cases p27 : r = 27
  · subst p27
    by_cases q : k < 40
    · rw [hT, o_all_r27 k q]; exact rt_l27 T k
    · rw [hi (by omega)]; exact rt_h27 T (by omega)
  by_cases p33 : r = 33
  · subst p33
    by_cases q : k < 40
    · rw [hT, o_all_r33 k q]; exact rt_l33 T k
    · rw [hi (by omega)]; exact rt_h33 T (by omega)
  by_cases p42 : r = 42
  · subst p42
    by_cases q : k < 40
    · rw [hT, o_all_r42 k q]; exact rt_l42 T k
    · rw [hi (by omega)]; exact rt_h42 T (by omega)
  by_cases p47 : r = 47
  · subst p47
    by_cases q : k < 40
    · rw [hT, o_all_r47 k q]; exact rt_l47 T k
    · rw [hi (by omega)]; exact rt_h47 T (by omega)
  by_cases p49 : r = 49
  · subst p49
    by_cases q : k < 40
    · rw [hT, o_all_r49 k q]; exact rt_l49 T k
    · rw [hi (by omega)]; exact rt_h49 T (by omega)
  by_cases p61 : r = 61
  · subst p61
    by_cases q : k < 40
    · rw [hT, o_all_r61 k q]; exact rt_l61 T k
    · rw [hi (by omega)]; exact rt_h61 T (by omega)
  by_cases p65 : r = 65
  · subst p65
    by_cases q : k < 40
    · rw [hT, o_all_r65 k q]; exact rt_l65 T k
    · rw [hi (by omega)]; exact rt_h65 T (by omega)
  by_cases p66 : r = 66
  · subst p66
    by_cases q : k < 40
    · rw [hT, o_all_r66 k q]; exact rt_l66 T k
    · rw [hi (by omega)]; exact rt_h66 T (by omega)
  by_cases p70 : r = 70
  · subst p70
    by_cases q : k < 40
    · rw [hT, o_all_r70 k q]; exact rt_l70 T k
    · rw [hi (by omega)]; exact rt_h70 T (by omega)
  by_cases p80 : r = 80
  · subst p80
    by_cases q : k < 40
    · rw [hT, o_all_r80 k q]; exact rt_l80 T k
    · rw [hi (by omega)]; exact rt_h80 T (by omega)
  have pl : ∀ T : ZT, z_rt T r k = 0 := fun T => by
    by_cases q0 : r = 12 ∨ r = 13 ∨ r = 14 ∨ r = 15 ∨ r = 16 ∨ r = 17 ∨ r = 18 ∨ r = 21 ∨ r = 22 ∨ r = 23 ∨ r = 24 ∨ r = 26 ∨ r = 28 ∨ r = 29 ∨ r = 30 ∨ r = 31 ∨ r = 32 ∨ r = 34 ∨ r = 35 ∨ r = 36
    · exact rt_p0 T k q0
    by_cases q1 : r = 37 ∨ r = 38 ∨ r = 39 ∨ r = 40 ∨ r = 43 ∨ r = 44 ∨ r = 45 ∨ r = 46 ∨ r = 48 ∨ r = 50 ∨ r = 51 ∨ r = 52 ∨ r = 53 ∨ r = 54 ∨ r = 55 ∨ r = 57 ∨ r = 58 ∨ r = 59 ∨ r = 60 ∨ r = 62
    · exact rt_p1 T k q1
    by_cases q2 : r = 63 ∨ r = 64 ∨ r = 67 ∨ r = 68 ∨ r = 69 ∨ r = 71 ∨ r = 72 ∨ r = 73 ∨ r = 74 ∨ r = 75 ∨ r = 76 ∨ r = 77 ∨ r = 78 ∨ r = 79 ∨ r = 81 ∨ r = 82 ∨ r = 83 ∨ r = 84 ∨ r = 85 ∨ r = 86
    · exact rt_p2 T k q2
    by_cases q3 : r = 87 ∨ r = 88 ∨ r = 89 ∨ r = 90 ∨ r = 91 ∨ r = 92 ∨ r = 93 ∨ r = 94 ∨ r = 95 ∨ r = 96 ∨ r = 97
    · exact rt_p3 T k q3
    omega
  have nr : c_nr r o_all = true := by
    have z := o_all_nr r h.2 h.1
    rw [Bool.or_eq_true] at z
    rcases z with q | q
    · have q' := List.mem_of_elem_eq_true q
      simp only [List.mem_cons, List.not_mem_nil, or_false] at q'
      omega
    · exact q
  rw [pl T, hT, c_r_nr k o_all 10 nr, o_all_r40 r h.2 h.1]; rfl
/-- a memory whose kinds and references are the table's -/
theorem z_Y_of (σ : ZM) (hK : ∀ r, z_kt (σ.1, σ.2.2.2.1, z_sz σ, z_sw σ) r = σ.1 r) (hR : ∀ r k, z_rt (σ.1, σ.2.2.2.1, z_sz σ, z_sw σ) r k = σ.2.2.2.1 r k) : σ = z_Y (σ.1, σ.2.2.2.1, z_sz σ, z_sw σ) (fun r k => (σ.2.1 r k.toNat).toInt) ((fun r k => (σ.2.1 r k.toNat).toInt), (fun r k => (σ.2.2.1 r k.toNat).toInt)) := by
  obtain ⟨K, I, L, R, n, w⟩ := σ
  unfold z_Y
  refine Prod.ext (funext fun r => (hK r).symm) (Prod.ext (funext fun r => funext fun k => ?_) (Prod.ext (funext fun r => funext fun k => ?_) (Prod.ext (funext fun r => funext fun k => (hR r k).symm) rfl)))
  · show I r k = iI (cond (z_sc r) ((I r ((k : Int).toNat)).toInt) ((I r ((k : Int).toNat)).toInt))
    cases z_sc r <;> exact (iI_toInt _).symm
  · show L r k = lI ((L r ((k : Int).toNat)).toInt)
    exact (lI_toInt _).symm

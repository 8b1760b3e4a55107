/-! THE PURE PART, 92: new cells -/
def z_ta (T : ZT) (kd len n : Nat) : ZT := ((fun a => if a = T.2.2.1 then (kd, len) else T.1 a), (fun a j => if a = T.2.2.1 then 0 else T.2.1 a j), T.2.2.1 + 1, T.2.2.2 + n)
theorem z_ble_hi {r m : Nat} (h : m < r) : Nat.ble r m = false := by
  cases e : Nat.ble r m with
  | false => rfl
  | true => have := Nat.le_of_ble_eq_true e; omega
theorem z_beq_hi {r m : Nat} (h : r ≠ m) : Nat.beq r m = false := by
  cases e : Nat.beq r m with
  | false => rfl
  | true => exact absurd (Nat.eq_of_beq_eq_true e) h
theorem z_kt_hi (T : ZT) {r : Nat} (h : 98 ≤ r) : z_kt T r = T.1 r := by
  unfold z_kt
  simp (disch := omega) only [z_ble_hi, z_beq_hi, cond_false]
theorem z_rt_hi (T : ZT) {r : Nat} (k : Nat) (h : 98 ≤ r) : z_rt T r k = T.2.1 r k := by
  unfold z_rt
  simp (disch := omega) only [z_ble_hi, z_beq_hi, cond_false]
theorem z_al_Y (T : ZT) (G : ZG) (s : ZG × ZG) (kd len n : Nat) (h : 98 ≤ T.2.2.1) : z_al (z_Y T G s) kd len n = z_Y (z_ta T kd len n) (z_up G T.2.2.1 (fun _ => 0)) (s.1, z_up s.2 T.2.2.1 (fun _ => 0)) := by
  unfold z_al z_Y
  refine Prod.ext ?_ (Prod.ext ?_ (Prod.ext ?_ (Prod.ext ?_ rfl)))
  · funext a
    show (if a = T.2.2.1 then (kd, len) else z_kt T a) = z_kt (z_ta T kd len n) a
    by_cases c : a = T.2.2.1
    · rw [if_pos c, c, z_kt_hi _ h]; exact (if_pos rfl).symm
    · rw [if_neg c]; exact (z_kt_cg (if_neg c)).symm
  · funext a j
    show (if a = T.2.2.1 then 0 else iI (cond (z_sc a) (s.1 a j) (G a j))) = iI (cond (z_sc a) (s.1 a j) (z_up G T.2.2.1 (fun _ => 0) a j))
    by_cases c : a = T.2.2.1
    · rw [if_pos c, c, z_sc_no ⟨by omega, by omega, by omega, by omega⟩, z_up_eq]; rfl
    · rw [if_neg c, z_up_ne _ _ c]
  · funext a j
    show (if a = T.2.2.1 then 0 else lI (s.2 a j)) = lI (z_up s.2 T.2.2.1 (fun _ => 0) a j)
    by_cases c : a = T.2.2.1
    · rw [if_pos c, c, z_up_eq]; rfl
    · rw [if_neg c, z_up_ne _ _ c]
  · funext a j
    show (if a = T.2.2.1 then 0 else z_rt T a j) = z_rt (z_ta T kd len n) a j
    by_cases c : a = T.2.2.1
    · rw [if_pos c, c, z_rt_hi _ _ h]; exact (if_pos rfl).symm
    · rw [if_neg c]; exact (z_rt_cg (if_neg c)).symm
theorem z_cn_Y (T : ZT) (G : ZG) (s : ZG × ZG) {a la : Nat} (hl : z_ln (z_Y T G s) a = la) (ra : a ≠ 62 ∧ a ≠ 63 ∧ a ≠ 86 ∧ a ≠ 88) (h : 98 ≤ T.2.2.1) : z_cn (z_Y T G s) a = z_Y (z_ta T 20 la la) (z_up G T.2.2.1 (G a)) (s.1, z_up s.2 T.2.2.1 (fun _ => 0)) := by
  have e := z_al_Y T G s 20 la la h
  unfold z_cn
  rw [hl, e]
  unfold z_Y
  refine Prod.ext rfl (Prod.ext ?_ rfl)
  funext b j
  show (if b = T.2.2.1 then iI (cond (z_sc a) (s.1 a j) (G a j)) else iI (cond (z_sc b) (s.1 b j) (G b j))) = iI (cond (z_sc b) (s.1 b j) (z_up G T.2.2.1 (G a) b j))
  by_cases c : b = T.2.2.1
  · rw [if_pos c, c, z_sc_no ra, z_sc_no ⟨by omega, by omega, by omega, by omega⟩, z_up_eq]; rfl
  · rw [if_neg c, z_up_ne _ _ c]
theorem z_kd_lo {T : ZT} {G : ZG} {s : ZG × ZG} {kd len n : Nat} {a : Nat} (h : a < T.2.2.1) (G' : ZG) (s' : ZG × ZG) : z_kd (z_Y (z_ta T kd len n) G' s') a = z_kd (z_Y T G s) a := by
  show (z_kt (z_ta T kd len n) a).1 = (z_kt T a).1
  rw [z_kt_cg (T := T) (if_neg (by omega))]
theorem z_ln_lo {T : ZT} {G : ZG} {s : ZG × ZG} {kd len n : Nat} {a : Nat} (h : a < T.2.2.1) (G' : ZG) (s' : ZG × ZG) : z_ln (z_Y (z_ta T kd len n) G' s') a = z_ln (z_Y T G s) a := by
  show (z_kt (z_ta T kd len n) a).2 = (z_kt T a).2
  rw [z_kt_cg (T := T) (if_neg (by omega))]
/-- Arrays.copyOf, no longer than the row -/
theorem p_copyOf {E : Nat} (hE : 2 ≤ E) (T : ZT) (G : ZG) (s : ZG × ZG) {a la : Nat} {n : Int} (hk : ∀ T G s, z_kd (z_Y T G s) a = 20) (hl : ∀ T G s, z_ln (z_Y T G s) a = la) (ha : 10 ≤ a ∧ a < 62) (hs : 98 ≤ T.2.2.1) (hn : 0 ≤ n ∧ n ≤ la) (hla : la ≤ 300) : ∃ W s', z_call E 69 [vr a, vi (iI n)] (z_Y T G s) = some (vr T.2.2.1, z_Y (z_ta T 20 n.toNat n.toNat) (z_up G T.2.2.1 W) s') ∧ ∀ i, 0 ≤ i → i < n → W i = G a i := by
  obtain ⟨d, rfl⟩ : ∃ d, E = d + 2 := ⟨E - 2, by omega⟩
  have ta : Nat.ble 10 a = true := Nat.ble_eq_true_of_le ha.1
  have ts : Nat.ble 10 T.2.2.1 = true := Nat.ble_eq_true_of_le (by omega)
  have b1 : Nat.ble 20 20 = true := rfl
  have b2 : Nat.ble 20 24 = true := rfl
  have in1 : (iI n = nI la) = (n = la) := by rw [nI_iI, iI_eq ⟨⟨by omega, by omega⟩, ⟨by omega, by omega⟩⟩]
  have k20 : z_kd (z_Y (z_ta T 20 n.toNat n.toNat) (z_up G T.2.2.1 (G a)) (s.1, z_up s.2 T.2.2.1 (fun _ => 0))) T.2.2.1 = 20 := by
    show (z_kt _ T.2.2.1).1 = 20
    rw [z_kt_hi _ hs]
    show (if T.2.2.1 = T.2.2.1 then (20, n.toNat) else T.1 T.2.2.1).1 = 20
    rw [if_pos rfl]
  by_cases c : n = la
  · refine ⟨G a, (s.1, z_up s.2 T.2.2.1 (fun _ => 0)), ?_, fun i _ _ => rfl⟩
    have e2 : z_call (d + 1) 2 [vr a] (z_Y T G s) = some (vr T.2.2.1, z_Y (z_ta T 20 n.toNat n.toNat) (z_up G T.2.2.1 (G a)) (s.1, z_up s.2 T.2.2.1 (fun _ => 0))) := by
      show z_g ((z_kd (z_Y T G s) a == 20) && Nat.ble 10 a) (some (vr (z_sz (z_Y T G s)), z_cn (z_Y T G s) a)) = _
      rw [hk, ta, z_cn_Y T G s (hl T G s) ⟨by omega, by omega, by omega, by omega⟩ hs, show la = n.toNat by omega]
      rfl
    rw [e_Ar_copyOf, hk, hl, b1, b2, if_pos (in1.mpr c), e2, z_bR_s, k20, ts]
    rfl
  · have cn0 : (iI n).toNatClampNeg = n.toNat := iI_natn n.toNat ⟨by omega, by omega⟩
    have d0 : decide (0 ≤ iI n) = true := decide_eq_true (by
      have z0 : (0 : Int32) = iI 0 := rfl
      rw [z0, iI_le ⟨⟨by omega, by omega⟩, ⟨by omega, by omega⟩⟩]; exact hn.1)
    have nb : Nat.ble n.toNat 100000 = true := Nat.ble_eq_true_of_le (by omega)
    have mi := fun σ => p_min d (a := (la : Int)) (b := n) σ ⟨⟨by omega, by omega⟩, ⟨by omega, by omega⟩⟩
    rw [show min (la : Int) n = n by omega] at mi
    have kT : ∀ G s, z_kd (z_Y (z_ta T 20 n.toNat n.toNat) G s) T.2.2.1 = 20 ∧ z_ln (z_Y (z_ta T 20 n.toNat n.toNat) G s) T.2.2.1 = n.toNat := fun G s => by
      have e : z_kt (z_ta T 20 n.toNat n.toNat) T.2.2.1 = (20, n.toNat) := by rw [z_kt_hi _ hs]; exact if_pos rfl
      exact ⟨by show (z_kt _ _).1 = _; rw [e], by show (z_kt _ _).2 = _; rw [e]⟩
    have cp := p_copy d (z_ta T 20 n.toNat n.toNat) (z_up G T.2.2.1 (fun _ => 0)) (s.1, z_up s.2 T.2.2.1 (fun _ => 0)) (a := a) (b := T.2.2.1) (la := la) (lb := n.toNat) (i := 0) (j := 0) (n := n) (fun _ _ => ⟨hk _ _ _, hl _ _ _⟩) kT ⟨by omega, by omega, by omega, by omega⟩ ⟨by omega, by omega, by omega, by omega⟩ ta ts (z_beq_hi (by omega)) (by omega)
    rw [z_up_up, z_up_eq, z_up_ne _ _ (show a ≠ T.2.2.1 by omega)] at cp
    refine ⟨z_cpr (G a) (fun _ => 0) 0 0 n, (s.1, z_up s.2 T.2.2.1 (fun _ => 0)), ?_, fun i h1 h2 => ?_⟩
    · rw [e_Ar_copyOf, hk, hl, b1, b2, if_neg (fun z => c (in1.mp z)), d0, cn0, nb, z_al_Y T G s 20 n.toNat n.toNat hs]
      have z0 : (0 : Int32) = iI 0 := rfl
      simp only [z_x_eq, z_g_t, Bool.and_true, hk, hl, b1, b2, nI_iI, mi, z_bI_s, z0, z_sz_Y, cp, z_bV_s]
    · unfold z_cpr
      rw [if_pos (by omega), show 0 + (i - 0) = i by omega]

/-! THE PURE PART, 124: the law from its first place on (printed by gen/con99d.py) -/
def o_vals : List (Nat × Nat × Int) := [(11, 0, 0), (11, 3, 0), (11, 7, 0), (11, 10, 0), (11, 12, (-1)), (20, 2, 0), (20, 3, 0), (20, 4, 71), (20, 5, 0), (25, 1, 0), (25, 2, 0), (27, 0, 0), (27, 3, 0), (33, 0, 0), (33, 3, 0), (33, 7, 0), (33, 10, 0), (33, 12, (-1)), (42, 2, 0), (42, 3, 0), (42, 4, 71), (42, 5, 0), (47, 1, 0), (47, 2, 0), (49, 0, 0), (49, 3, 0), (81, 0, 0), (81, 1, 0), (81, 2, 0), (81, 3, 0), (81, 4, 71), (81, 5, 0), (81, 6, (-1)), (81, 7, 0), (81, 8, 0), (81, 9, 0), (81, 10, 0), (81, 11, 0), (80, 4, 0), (80, 5, (-1)), (80, 6, (-1)), (80, 24, (-1)), (80, 25, 0), (10, 9, 0), (56, 13, 0), (61, 5, 0)]
theorem o_all_v : ∀ p, p ∈ o_vals → c_i o_all 10 p.1 p.2.1 = some p.2.2 ∧ i_in p.2.2 := by decide +kernel
theorem o_all_21 : ∀ k : Nat, k < 10 → c_i o_all 10 21 k = some (-1) ∧ c_i o_all 10 22 k = some 0 ∧ c_i o_all 10 43 k = some (-1) ∧ c_i o_all 10 44 k = some 0 := by decide +kernel
theorem o_all_64 : ∀ k : Nat, k < 181 → c_i o_all 10 64 k = some 0 := by decide +kernel
theorem o_all_19 : ∀ k : Nat, k < 4 → c_r o_all 10 19 k = some 0 ∧ c_r o_all 10 41 k = some 0 := by decide +kernel
/-- one side of the world as it begins -/
theorem c_sd0 {h : ZG} {A : Int → Int} (a : A 0 = 0 ∧ A 1 = 0 ∧ A 2 = 0 ∧ A 3 = 0 ∧ A 4 = 71 ∧ A 5 = 0 ∧ A 6 = -1 ∧ A 7 = 0 ∧ A 8 = 0 ∧ A 9 = 0 ∧ A 10 = 0 ∧ A 11 = 0) (b : h 0 0 = 0 ∧ h 0 3 = 0 ∧ h 0 7 = 0 ∧ h 0 10 = 0 ∧ h 0 12 = -1) (c : h 9 2 = 0 ∧ h 9 3 = 0 ∧ h 9 4 = 71 ∧ h 9 5 = 0) (e : ∀ p : Int, 0 ≤ p → p < 10 → h 10 p = -1 ∧ h 11 p = 0) (f : h 14 1 = 0 ∧ h 14 2 = 0) (g : h 16 0 = 0 ∧ h 16 3 = 0) : c_sd h A := by
  obtain ⟨a0, a1, a2, a3, a4, a5, a6, a7, a8, a9, a10, a11⟩ := a
  obtain ⟨b0, b3, b7, b10, b12⟩ := b
  obtain ⟨c2, c3, c4, c5⟩ := c
  obtain ⟨f1, f2⟩ := f
  obtain ⟨g0, g3⟩ := g
  refine ⟨⟨by omega, by omega, by omega, by omega, by omega, by omega, by omega, by omega, by omega, by omega, by omega, by omega, fun k x y => absurd y (by omega), fun k x y => absurd y (by omega), fun k x y => absurd y (by omega), fun k x y => absurd y (by omega), fun k x y => absurd y (by omega), fun k x y => absurd y (by omega)⟩, fun p q x y => absurd y (by omega), ⟨by omega, by omega, by omega, by omega, by omega, fun k x y => absurd y (by omega), fun k x y => absurd y (by omega), fun k x y => absurd y (by omega)⟩, ⟨⟨by omega, by omega, by omega, by omega⟩, fun k x y => absurd y (by omega), fun p x y => e p (by omega) y, fun k x y => absurd y (by omega)⟩, ⟨by omega, fun k x y => absurd y (by omega), by omega, fun k x y => absurd y (by omega)⟩, ⟨by omega, by omega, fun k x y => absurd y (by omega), fun i j x y z => absurd z (by omega)⟩⟩
section
variable {K0 : Nat → Nat × Nat} {I0 : Nat → Nat → Int32} {L0 : Nat → Nat → Int64} {R0 : Nat → Nat → Nat}
/-- the law, whole: it ends and answers 1 -/
theorem p_whole {N : Nat} (hN : N ≤ 3072) (hk1 : K0 1 = (20, N)) (hk2 : K0 2 = (20, 90)) (hk3 : K0 3 = (13, 0)) (hk4 : K0 4 = (21, 13)) (hk5 : K0 5 = (13, 0)) (hk6 : K0 6 = (21, 141)) (hr0 : ∀ r k, r < 10 → R0 r k = z_rt T00 r k) (hS : y_S (fun r k => (I0 r k.toNat).toInt)) : ∃ τ, z_w d_L_law (z_call 60) 0 [some (vr 1), none, none, none] [] (K0, I0, L0, R0, 10, 0) = some (vi 1, τ) ∧ z_sz τ ≤ 600010 ∧ z_sw τ ≤ 7302250 := by
  obtain ⟨σ0, hσ0⟩ : ∃ σ0 : ZM, σ0 = (K0, I0, L0, R0, 10, 0) := ⟨_, rfl⟩
  have s0 : z_sz σ0 = 10 := by rw [hσ0]; rfl
  have w0 : z_sw σ0 = 0 := by rw [hσ0]; rfl
  have x1 : σ0.1 = K0 := by rw [hσ0]
  have x2 : σ0.2.1 = I0 := by rw [hσ0]
  have x3 : σ0.2.2.2.1 = R0 := by rw [hσ0]
  rw [← hσ0]
  clear hσ0
  have s1 : z_sz (z_al σ0 11 0 15) = 11 := by rw [zs_al, s0]
  have k1 : z_kd (z_al σ0 11 0 15) 10 = 11 := zk_an s0
  have b := o_B_c 56 (z_al σ0 11 0 15) s1 k1
  have s2 : z_sz (c_do o_B (z_al σ0 11 0 15)) = 80 := by rw [c_do_sz, s1, o_B_a]
  have s3 : z_sz (z_al (c_do o_B (z_al σ0 11 0 15)) 12 0 38) = 81 := by rw [zs_al, s2]
  have k3 : z_kd (z_al (c_do o_B (z_al σ0 11 0 15)) 12 0 38) 80 = 12 := zk_an s2
  have m := o_M_c 57 _ s3 k3
  have eA : c_do o_M (z_al (c_do o_B (z_al σ0 11 0 15)) 12 0 38) = c_do o_all σ0 := by
    unfold o_all
    rw [c_do_app, c_do_app, c_do_app]; rfl
  rw [eA] at m
  have e0 : z_w d_L_law (z_call 60) 0 [some (vr 1), none, none, none] [] σ0 = z_bV (z_bV (z_call 59 14 [vr 81, vr 82] (c_do o_all σ0)) (fun τ => some (vi 0, τ))) (fun σ6 => z_w d_L_law (z_call 60) 18 [some (vr 1), some (vr 10), some (vr 80), some (vi (0 : Int32))] [] σ6) := by
    rw [e_L_law]
    simp only [z_x_eq, s0, Nat.reduceBEq, Bool.not_false, Bool.and_self, z_g_t]
    rw [b]
    simp only [z_bV_s, s2, Nat.reduceBEq, Bool.not_false, Bool.and_self, z_g_t]
    rw [m]
  have cI : ∀ r k : Nat, (c_do o_all σ0).2.1 r k = ((c_i o_all 10 r k).map iI).getD (I0 r k) := fun r k => by rw [c_do_i, s0, x2]
  have cR : ∀ r k : Nat, (c_do o_all σ0).2.2.2.1 r k = (c_r o_all 10 r k).getD (R0 r k) := fun r k => by rw [c_do_r, s0, x3]
  have cK : ∀ r : Nat, (c_do o_all σ0).1 r = (c_k o_all 10 r).getD (K0 r) := fun r => by rw [c_do_k, s0, x1]
  have sA : z_sz (c_do o_all σ0) = 98 := by rw [c_do_sz, s0, o_all_n]
  have wA : z_sw (c_do o_all σ0) ≤ 20000 := by
    rw [c_do_sw, w0]
    have := o_all_s
    omega
  generalize c_do o_all σ0 = σA at *
  have hK : ∀ r, z_kt (σA.1, σA.2.2.2.1, z_sz σA, z_sw σA) r = σA.1 r := fun r => by
    by_cases c1 : r < 10
    · have e : σA.1 r = K0 r := by rw [cK, o_all_k0 r c1]; rfl
      by_cases z2 : r = 2
      · subst z2; rw [e, hk2]; rfl
      by_cases z3 : r = 3
      · subst z3; rw [e, hk3]; rfl
      by_cases z4 : r = 4
      · subst z4; rw [e, hk4]; rfl
      by_cases z5 : r = 5
      · subst z5; rw [e, hk5]; rfl
      by_cases z6 : r = 6
      · subst z6; rw [e, hk6]; rfl
      rcases (show r = 0 ∨ r = 1 ∨ r = 7 ∨ r = 8 ∨ r = 9 by omega) with rfl | rfl | rfl | rfl | rfl <;> rfl
    · by_cases c2 : r < 98
      · rw [kt_all _ ⟨by omega, c2⟩, cK, o_all_k r c2 (by omega)]; rfl
      · exact z_kt_hi _ (by omega)
  have hR : ∀ r k, z_rt (σA.1, σA.2.2.2.1, z_sz σA, z_sw σA) r k = σA.2.2.2.1 r k := fun r k => by
    by_cases c1 : r < 10
    · rw [cR, c_r_lo c1 o_all 10 (Nat.le_refl _) o_all_rb]
      show _ = R0 r k
      rw [hr0 r k c1]
      rcases (show r = 0 ∨ r = 1 ∨ r = 2 ∨ r = 3 ∨ r = 4 ∨ r = 5 ∨ r = 6 ∨ r = 7 ∨ r = 8 ∨ r = 9 by omega) with rfl | rfl | rfl | rfl | rfl | rfl | rfl | rfl | rfl | rfl <;> rfl
    · by_cases c2 : r < 98
      · exact rt_all (T := (σA.1, σA.2.2.2.1, z_sz σA, z_sw σA)) (R0 := R0) cR ⟨by omega, c2⟩ k
      · exact z_rt_hi _ k (by omega)
  have eY := z_Y_of σA hK hR
  obtain ⟨T, hT⟩ : ∃ T : ZT, T = (σA.1, σA.2.2.2.1, z_sz σA, z_sw σA) := ⟨_, rfl⟩
  obtain ⟨G, hG⟩ : ∃ G : ZG, G = fun r k => (σA.2.1 r k.toNat).toInt := ⟨_, rfl⟩
  obtain ⟨s, hs⟩ : ∃ s : ZG × ZG, s = ((fun r k => (σA.2.1 r k.toNat).toInt), (fun r k => (σA.2.2.1 r k.toNat).toInt)) := ⟨_, rfl⟩
  rw [← hT, ← hs, ← hG] at eY
  obtain ⟨R', e1, r1⟩ := p_mcp_81 58 T G s 2136 0 (G 82) (by omega) (by omega) (fun k x y => absurd y (by omega))
  rw [z_up_id] at e1
  have z0 : (0 : Int32) = iI 0 := rfl
  have e2 : z_call 59 14 [vr 81, vr 82] σA = some (vi (iI 0), z_Y T (z_up G 82 R') s) := by
    rw [e_M_copy 58 81 82 σA, z0, ← e1, ← eY]
  have t1 : T.2.2.1 = 98 := by rw [hT]; exact sA
  have t2 : T.2.2.2 ≤ 20000 := by rw [hT]; exact wA
  have t3 : T.1 1 = (20, N) := by
    rw [hT]
    show σA.1 1 = _
    rw [cK, o_all_k0 1 (by omega)]; exact hk1
  have gv : ∀ (r k : Nat) (v : Int), c_i o_all 10 r k = some v → i_in v → G r k = v := fun r k v h1 h2 => by
    rw [hG]
    show (σA.2.1 r ((k : Int).toNat)).toInt = v
    rw [show ((k : Int)).toNat = k from rfl, cI, h1]
    exact iI_in h2
  have gl : ∀ (r k : Nat) (v : Int), (r, k, v) ∈ o_vals → G r k = v := fun r k v h1 => gv r k v (o_all_v _ h1).1 (o_all_v _ h1).2
  have glo : ∀ r, r < 10 → G r = (fun k => (I0 r k.toNat).toInt) := fun r h => by
    rw [hG]
    funext k
    show (σA.2.1 r k.toNat).toInt = _
    rw [cI, c_i_lo h o_all 10 (Nat.le_refl _) o_all_ib]; rfl
  have u : ∀ r, r ≠ 82 → z_up G 82 R' r = G r := fun r h => z_up_ne _ _ h
  have u82 : z_up G 82 R' 82 = R' := z_up_eq _ _ _
  have rv : ∀ (k : Nat) (v : Int), k < 2136 → (81, k, v) ∈ o_vals → R' k = v := fun k v h0 h1 => by rw [r1 k (by omega) (by omega)]; exact gl 81 k v h1
  have hI : z_I (fun r k => (I0 r k.toNat).toInt) 0 T (z_up G 82 R') := by
    refine ⟨?_, fun r q => ?_, ?_, ⟨?_, ?_, ?_, ?_⟩, ?_, ?_, ⟨?_, ?_⟩, ?_, ?_, ?_, ⟨?_, ?_⟩, ?_, ?_, ⟨?_, ?_⟩⟩
    · unfold c_now
      rw [u 81 (by omega)]
      refine c_sd0 ⟨gl 81 0 0 (by decide), gl 81 1 0 (by decide), gl 81 2 0 (by decide), gl 81 3 0 (by decide), gl 81 4 71 (by decide), gl 81 5 0 (by decide), gl 81 6 (-1) (by decide), gl 81 7 0 (by decide), gl 81 8 0 (by decide), gl 81 9 0 (by decide), gl 81 10 0 (by decide), gl 81 11 0 (by decide)⟩ ⟨by show z_up G 82 R' 11 0 = _; rw [u 11 (by omega)]; exact gl 11 0 0 (by decide), by show z_up G 82 R' 11 3 = _; rw [u 11 (by omega)]; exact gl 11 3 0 (by decide), by show z_up G 82 R' 11 7 = _; rw [u 11 (by omega)]; exact gl 11 7 0 (by decide), by show z_up G 82 R' 11 10 = _; rw [u 11 (by omega)]; exact gl 11 10 0 (by decide), by show z_up G 82 R' 11 12 = _; rw [u 11 (by omega)]; exact gl 11 12 (-1) (by decide)⟩ ⟨by show z_up G 82 R' 20 2 = _; rw [u 20 (by omega)]; exact gl 20 2 0 (by decide), by show z_up G 82 R' 20 3 = _; rw [u 20 (by omega)]; exact gl 20 3 0 (by decide), by show z_up G 82 R' 20 4 = _; rw [u 20 (by omega)]; exact gl 20 4 71 (by decide), by show z_up G 82 R' 20 5 = _; rw [u 20 (by omega)]; exact gl 20 5 0 (by decide)⟩ (fun p x y => ?_) ⟨by show z_up G 82 R' 25 1 = _; rw [u 25 (by omega)]; exact gl 25 1 0 (by decide), by show z_up G 82 R' 25 2 = _; rw [u 25 (by omega)]; exact gl 25 2 0 (by decide)⟩ ⟨by show z_up G 82 R' 27 0 = _; rw [u 27 (by omega)]; exact gl 27 0 0 (by decide), by show z_up G 82 R' 27 3 = _; rw [u 27 (by omega)]; exact gl 27 3 0 (by decide)⟩
      have o := o_all_21 p.toNat (by omega)
      have v1 := gv 21 p.toNat _ o.1 ⟨by decide, by decide⟩
      have v2 := gv 22 p.toNat _ o.2.1 ⟨by decide, by decide⟩
      rw [show ((p.toNat : Nat) : Int) = p by omega] at v1 v2
      show z_up G 82 R' 21 p = -1 ∧ z_up G 82 R' 22 p = 0
      rw [u 21 (by omega), u 22 (by omega)]
      exact ⟨v1, v2⟩
    · rw [u r (by omega)]; exact glo r q
    · unfold c_img
      rw [u82]
      refine c_sd0 ⟨rv 0 0 (by omega) (by decide), rv 1 0 (by omega) (by decide), rv 2 0 (by omega) (by decide), rv 3 0 (by omega) (by decide), rv 4 71 (by omega) (by decide), rv 5 0 (by omega) (by decide), rv 6 (-1) (by omega) (by decide), rv 7 0 (by omega) (by decide), rv 8 0 (by omega) (by decide), rv 9 0 (by omega) (by decide), rv 10 0 (by omega) (by decide), rv 11 0 (by omega) (by decide)⟩ ⟨by show z_up G 82 R' 33 0 = _; rw [u 33 (by omega)]; exact gl 33 0 0 (by decide), by show z_up G 82 R' 33 3 = _; rw [u 33 (by omega)]; exact gl 33 3 0 (by decide), by show z_up G 82 R' 33 7 = _; rw [u 33 (by omega)]; exact gl 33 7 0 (by decide), by show z_up G 82 R' 33 10 = _; rw [u 33 (by omega)]; exact gl 33 10 0 (by decide), by show z_up G 82 R' 33 12 = _; rw [u 33 (by omega)]; exact gl 33 12 (-1) (by decide)⟩ ⟨by show z_up G 82 R' 42 2 = _; rw [u 42 (by omega)]; exact gl 42 2 0 (by decide), by show z_up G 82 R' 42 3 = _; rw [u 42 (by omega)]; exact gl 42 3 0 (by decide), by show z_up G 82 R' 42 4 = _; rw [u 42 (by omega)]; exact gl 42 4 71 (by decide), by show z_up G 82 R' 42 5 = _; rw [u 42 (by omega)]; exact gl 42 5 0 (by decide)⟩ (fun p x y => ?_) ⟨by show z_up G 82 R' 47 1 = _; rw [u 47 (by omega)]; exact gl 47 1 0 (by decide), by show z_up G 82 R' 47 2 = _; rw [u 47 (by omega)]; exact gl 47 2 0 (by decide)⟩ ⟨by show z_up G 82 R' 49 0 = _; rw [u 49 (by omega)]; exact gl 49 0 0 (by decide), by show z_up G 82 R' 49 3 = _; rw [u 49 (by omega)]; exact gl 49 3 0 (by decide)⟩
      have o := o_all_21 p.toNat (by omega)
      have v1 := gv 43 p.toNat _ o.2.2.1 ⟨by decide, by decide⟩
      have v2 := gv 44 p.toNat _ o.2.2.2 ⟨by decide, by decide⟩
      rw [show ((p.toNat : Nat) : Int) = p by omega] at v1 v2
      show z_up G 82 R' 43 p = -1 ∧ z_up G 82 R' 44 p = 0
      rw [u 43 (by omega), u 44 (by omega)]
      exact ⟨v1, v2⟩
    · intro t x y
      rw [u 81 (by omega), show G 81 5 = 0 from gl 81 5 0 (by decide)] at y
      omega
    · intro t x y
      rw [u 81 (by omega), show G 81 5 = 0 from gl 81 5 0 (by decide)] at y
      omega
    · rw [u82, u 81 (by omega), show G 81 5 = 0 from gl 81 5 0 (by decide), show R' 5 = 0 from rv 5 0 (by omega) (by decide)]
      omega
    · intro t x y
      rw [u82, show R' 5 = 0 from rv 5 0 (by omega) (by decide)] at y
      omega
    · intro t x y
      rw [u 81 (by omega), show G 81 5 = 0 from gl 81 5 0 (by decide)] at y
      omega
    · intro t x y
      rw [u82, show R' 5 = 0 from rv 5 0 (by omega) (by decide)] at y
      omega
    · rw [u 80 (by omega)]; exact gl 80 24 (-1) (by decide)
    · rw [u 80 (by omega), show G 80 25 = 0 from gl 80 25 0 (by decide)]; exact ⟨by omega, by omega⟩
    · unfold z_tape
      rw [u 80 (by omega), u 10 (by omega), show G 80 4 = 0 from gl 80 4 0 (by decide), show G 10 9 = 0 from gl 10 9 0 (by decide)]
      exact ⟨⟨by omega, by omega⟩, rfl, fun k x y => absurd y (by omega)⟩
    · unfold z_flt
      rw [u 80 (by omega), u 56 (by omega)]
      exact Or.inl ⟨gl 56 13 0 (by decide), gl 80 5 (-1) (by decide), gl 80 6 (-1) (by decide)⟩
    · unfold z_ask
      rw [u 61 (by omega), u 64 (by omega), show G 61 5 = 0 from gl 61 5 0 (by decide)]
      refine ⟨by omega, by omega, fun i x y => ?_⟩
      have v := gv 64 i.toNat 0 (o_all_64 i.toNat (by omega)) ⟨by decide, by decide⟩
      rw [show ((i.toNat : Nat) : Int) = i by omega] at v
      rw [v]; omega
    · omega
    · omega
    · omega
    · omega
    · intro k x y
      have : z_rt T 19 k = T.2.1 19 k := rfl
      rw [this, hT]
      show σA.2.2.2.1 19 k = 0
      rw [cR, (o_all_19 k x).1]; rfl
    · intro k x y
      have : z_rt T 41 k = T.2.1 41 k := rfl
      rw [this, hT]
      show σA.2.2.2.1 41 k = 0
      rw [cR, (o_all_19 k x).2]; rfl
  obtain ⟨τ, f1, f2, f3⟩ := lw_loop (S0 := fun r k => (I0 r k.toNat).toInt) (N := N) hS hN (fun k => ⟨Int32.le_toInt _, Int32.toInt_lt _⟩) 600 0 T (z_up G 82 R') s hI t3 (by omega) (by omega)
  refine ⟨τ, ?_, f2, f3⟩
  rw [e0, e2]
  exact f1
end

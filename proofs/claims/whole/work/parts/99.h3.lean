/-! THE PURE PART, 122: both constructors (printed by gen/con99b.py) -/
def o_B : List ZO := [(0, 4, 0, 13)] ++ (o_0 ++ ([(2, 10, 0, 11), (0, 5, 0, 8)] ++ (o_1 ++ ([(2, 10, 1, 20), (0, 8, 0, 3)] ++ (o_2 ++ ([(2, 10, 2, 25), (0, 10, 0, 7)] ++ (o_3 ++ ([(2, 10, 3, 27), (0, 4, 0, 13)] ++ (o_4 ++ ([(2, 10, 4, 33), (0, 5, 0, 8)] ++ (o_5 ++ ([(2, 10, 5, 42), (0, 8, 0, 3)] ++ (o_6 ++ ([(2, 10, 6, 47), (0, 10, 0, 7)] ++ (o_7 ++ ([(2, 10, 7, 49), (0, 21, 300, 300), (2, 10, 8, 55), (1, 10, 9, 0), (0, 7, 0, 16)] ++ (o_8 ++ ([(2, 10, 10, 56), (0, 1, 0, 7)] ++ (o_9 ++ ([(2, 10, 11, 61), (0, 2, 0, 4)] ++ (o_10 ++ ([(2, 10, 12, 65), (0, 6, 0, 7)] ++ (o_11 ++ ([(2, 10, 13, 66), (0, 3, 0, 13)] ++ (o_12 ++ ([(2, 10, 14, 70)]))))))))))))))))))))))))))
theorem o_B_a : c_na o_B = 69 := by decide +kernel
theorem o_0_r {σ : ZM} (h : 10 < z_sz σ) (k : Nat) : z_r (c_do o_0 σ) 10 k = z_r σ 10 k := zr_do h rfl
theorem o_1_r {σ : ZM} (h : 10 < z_sz σ) (k : Nat) : z_r (c_do o_1 σ) 10 k = z_r σ 10 k := zr_do h rfl
theorem o_2_r {σ : ZM} (h : 10 < z_sz σ) (k : Nat) : z_r (c_do o_2 σ) 10 k = z_r σ 10 k := zr_do h rfl
theorem o_3_r {σ : ZM} (h : 10 < z_sz σ) (k : Nat) : z_r (c_do o_3 σ) 10 k = z_r σ 10 k := zr_do h rfl
theorem o_4_r {σ : ZM} (h : 10 < z_sz σ) (k : Nat) : z_r (c_do o_4 σ) 10 k = z_r σ 10 k := zr_do h rfl
theorem o_5_r {σ : ZM} (h : 10 < z_sz σ) (k : Nat) : z_r (c_do o_5 σ) 10 k = z_r σ 10 k := zr_do h rfl
theorem o_6_r {σ : ZM} (h : 10 < z_sz σ) (k : Nat) : z_r (c_do o_6 σ) 10 k = z_r σ 10 k := zr_do h rfl
theorem o_7_r {σ : ZM} (h : 10 < z_sz σ) (k : Nat) : z_r (c_do o_7 σ) 10 k = z_r σ 10 k := zr_do h rfl
theorem o_8_r {σ : ZM} (h : 10 < z_sz σ) (k : Nat) : z_r (c_do o_8 σ) 10 k = z_r σ 10 k := zr_do h rfl
theorem o_9_r {σ : ZM} (h : 10 < z_sz σ) (k : Nat) : z_r (c_do o_9 σ) 10 k = z_r σ 10 k := zr_do h rfl
theorem o_10_r {σ : ZM} (h : 10 < z_sz σ) (k : Nat) : z_r (c_do o_10 σ) 10 k = z_r σ 10 k := zr_do h rfl
theorem o_11_r {σ : ZM} (h : 10 < z_sz σ) (k : Nat) : z_r (c_do o_11 σ) 10 k = z_r σ 10 k := zr_do h rfl
theorem o_12_r {σ : ZM} (h : 10 < z_sz σ) (k : Nat) : z_r (c_do o_12 σ) 10 k = z_r σ 10 k := zr_do h rfl
theorem o_B_c (d : Nat) (σ : ZM) (hs : z_sz σ = 11) (hk : z_kd σ 10 = 11) : z_call (d + 4) 13 [vr 10] σ = some (vi 0, c_do o_B σ) := by
  have ob := fun σ => zc_obj (d + 2) (r := 10) σ ⟨by decide, by decide⟩
  rw [e_B_init, ob]
  simp (disch := first | (simp only [zs_ui, zs_ur, zs_al, c_do_sz, o_0_a, o_1_a, o_2_a, o_3_a, o_4_a, o_5_a, o_6_a, o_7_a, o_8_a, o_9_a, o_10_a, o_11_a, o_12_a, hs, Nat.reduceAdd]; done) | (simp only [zs_ui, zs_ur, zs_al, c_do_sz, o_0_a, o_1_a, o_2_a, o_3_a, o_4_a, o_5_a, o_6_a, o_7_a, o_8_a, o_9_a, o_10_a, o_11_a, o_12_a, hs, Nat.reduceAdd]; omega) | (apply zk_an; simp only [zs_ui, zs_ur, zs_al, c_do_sz, o_0_a, o_1_a, o_2_a, o_3_a, o_4_a, o_5_a, o_6_a, o_7_a, o_8_a, o_9_a, o_10_a, o_11_a, o_12_a, hs, Nat.reduceAdd]; done) | (constructor <;> decide) | (left; decide) | (right; decide) | (show c_nr _ _ = true; rfl)) only [o_0_c, o_1_c, o_2_c, o_3_c, o_4_c, o_5_c, o_6_c, o_7_c, o_8_c, o_9_c, o_10_c, o_11_c, o_12_c, o_0_a, o_1_a, o_2_a, o_3_a, o_4_a, o_5_a, o_6_a, o_7_a, o_8_a, o_9_a, o_10_a, o_11_a, o_12_a, zk_ui, zk_ur, zk_al, zk_do, zs_ui, zs_ur, zs_al, c_do_sz, zr_ui, zr_uh, zr_un, zr_al, o_0_r, o_1_r, o_2_r, o_3_r, o_4_r, o_5_r, o_6_r, o_7_r, o_8_r, o_9_r, o_10_r, o_11_r, o_12_r, hs, hk, Nat.reduceAdd, Nat.reduceBEq, Bool.not_false, Bool.and_self, beq_self_eq_true, z_g_t, ↓z_x_eq, z_bV_s]
  simp only [o_B, c_do_app, c_do, c_op]
  rfl
def o_M : List ZO := [(0, 20, 2136, 2136), (2, 80, 0, 81), (0, 20, 2136, 2136), (2, 80, 1, 82), (0, 20, 2820, 2820), (2, 80, 2, 83), (0, 20, 300, 300), (2, 80, 3, 84), (1, 80, 5, (-1)), (1, 80, 6, (-1)), (0, 20, 160, 160), (2, 80, 15, 85), (0, 20, 10, 10), (2, 80, 21, 86), (0, 23, 330, 330), (2, 80, 22, 87), (0, 22, 330, 330), (2, 80, 23, 88), (1, 80, 24, (-1)), (0, 20, 10, 10), (2, 80, 26, 89), (0, 20, 10, 10), (2, 80, 27, 90), (0, 20, 10, 10), (2, 80, 28, 91), (0, 20, 10, 10), (2, 80, 29, 92), (0, 20, 10, 10), (2, 80, 30, 93), (0, 20, 10, 10), (2, 80, 32, 94), (0, 20, 10, 10), (2, 80, 33, 95), (0, 22, 2048, 2048), (2, 80, 34, 96), (0, 22, 1024, 1024), (2, 80, 35, 97), (1, 81, 4, 71), (1, 81, 6, (-1))]

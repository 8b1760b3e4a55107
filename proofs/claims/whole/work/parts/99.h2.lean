/-! THE PURE PART, 121: the constructors, one by one (printed by gen/con99b.py) -/
def o_0 : List ZO := [(1, 11, 0, 0), (0, 20, 10, 10), (2, 11, 1, 12), (0, 20, 10, 10), (2, 11, 2, 13), (1, 11, 3, 0), (0, 20, 10, 10), (2, 11, 4, 14), (0, 20, 10, 10), (2, 11, 5, 15), (0, 20, 10, 10), (2, 11, 6, 16), (1, 11, 7, 0), (0, 20, 12, 12), (2, 11, 8, 17), (0, 20, 12, 12), (2, 11, 9, 18), (1, 11, 10, 0), (0, 24, 4, 4), (2, 11, 11, 19), (1, 11, 12, (-1))]
theorem o_0_a : c_na o_0 = 8 := rfl
theorem o_0_c (d : Nat) (σ : ZM) (hs : z_sz σ = 12) (hk : z_kd σ 11 = 4) : z_call (d + 3) 3 [vr 11] σ = some (vi 0, c_do o_0 σ) := by
  have ob := fun σ => zc_obj (d + 1) (r := 11) σ ⟨by decide, by decide⟩
  rw [e_H_init, ob]
  simp (disch := first | assumption | omega | decide | (simp only [zs_ui, zs_ur, zs_al, hs, Nat.reduceAdd]; omega)) only [zk_ui, zk_ur, zk_al, zs_ui, zs_ur, zs_al, hs, hk, Nat.reduceAdd, Nat.reduceBEq, beq_self_eq_true, z_g_t, ↓z_x_eq, z_bV_s]
  rfl
def o_1 : List ZO := [(0, 20, 10, 10), (2, 20, 0, 21), (0, 20, 10, 10), (2, 20, 1, 22), (1, 20, 2, 0), (1, 20, 3, 0), (1, 20, 4, 71), (1, 20, 5, 0), (0, 20, 20, 20), (2, 20, 6, 23), (0, 20, 20, 20), (2, 20, 7, 24), (1, 21, 0, (-1)), (1, 21, 1, (-1)), (1, 21, 2, (-1)), (1, 21, 3, (-1)), (1, 21, 4, (-1)), (1, 21, 5, (-1)), (1, 21, 6, (-1)), (1, 21, 7, (-1)), (1, 21, 8, (-1)), (1, 21, 9, (-1))]
theorem o_1_a : c_na o_1 = 4 := rfl
theorem o_1_c (d : Nat) (σ : ZM) (hs : z_sz σ = 21) (hk : z_kd σ 20 = 5) : z_call (d + 3) 5 [vr 20] σ = some (vi 0, c_do o_1 σ) := by
  have ob := fun σ => zc_obj (d + 1) (r := 20) σ ⟨by decide, by decide⟩
  have fl : ∀ (x : Nat) (i : Nat) (τ : ZM), x + i = 10 → z_kd τ 21 = 20 → z_ln τ 21 = 10 → z_w d_Ar_fill (z_call (d + 1)) 5 [some (vr 21), some (vi (-1 : Int32)), some (vi (iI i)), some (vi (iI 10))] [] τ = some (vi 0, c_do ((List.range' i x).map (fun j => ((1 : Nat), 21, j, (-1 : Int)))) τ) := by
    intro x
    induction x with
    | zero =>
      intro i τ hx k l
      rw [e_Ar_fill_5, if_neg (by rw [iI_lt ⟨⟨by omega, by omega⟩, ⟨by omega, by omega⟩⟩]; omega)]
      rfl
    | succ x ih =>
      intro i τ hx k l
      have hi := ih (i + 1) (z_ui τ 21 i (iI (-1))) (by omega) k l
      have at' : (z_at τ 21 20 (iI i) && Nat.ble 10 21) = true := by
        unfold z_at z_ix
        rw [k, l, iI_natn i ⟨rfl, by omega⟩, decide_eq_true (show (0 : Int32) ≤ iI i from by
          have z : (0 : Int32) = iI 0 := rfl
          rw [z, iI_le ⟨⟨by omega, by omega⟩, ⟨by omega, by omega⟩⟩]; omega), decide_eq_true (show i < 10 by omega)]
        rfl
      have one : (1 : Int32) = iI 1 := rfl
      rw [e_Ar_fill_5, if_pos (by rw [iI_lt ⟨⟨by omega, by omega⟩, ⟨by omega, by omega⟩⟩]; omega), at', z_g_t, z_x_eq, iI_m1, one, iI_add, iI_natn i ⟨rfl, by omega⟩, show (i : Int) + 1 = ((i + 1 : Nat) : Int) by omega]
      rw [iI_m1] at hi
      rw [hi]
      rfl
  rw [e_Mo_init, ob]
  simp (disch := first | assumption | omega | decide | (simp only [zs_ui, zs_ur, zs_al, hs, Nat.reduceAdd]; omega)) only [zk_ui, zk_ur, zk_al, zs_ui, zs_ur, zs_al, hs, hk, Nat.reduceAdd, Nat.reduceBEq, beq_self_eq_true, z_g_t, ↓z_x_eq, z_bV_s]
  have k0 : z_kd (c_do [(0, 20, 10, 10), (2, 20, 0, 21), (0, 20, 10, 10), (2, 20, 1, 22), (1, 20, 2, 0), (1, 20, 3, 0), (1, 20, 4, 71), (1, 20, 5, 0), (0, 20, 20, 20), (2, 20, 6, 23), (0, 20, 20, 20), (2, 20, 7, 24)] σ) 21 = 20 := by
    show ((c_do [(0, 20, 10, 10), (2, 20, 0, 21), (0, 20, 10, 10), (2, 20, 1, 22), (1, 20, 2, 0), (1, 20, 3, 0), (1, 20, 4, 71), (1, 20, 5, 0), (0, 20, 20, 20), (2, 20, 6, 23), (0, 20, 20, 20), (2, 20, 7, 24)] σ).1 21).1 = 20
    rw [c_do_k, hs]
    rfl
  have l0 : z_ln (c_do [(0, 20, 10, 10), (2, 20, 0, 21), (0, 20, 10, 10), (2, 20, 1, 22), (1, 20, 2, 0), (1, 20, 3, 0), (1, 20, 4, 71), (1, 20, 5, 0), (0, 20, 20, 20), (2, 20, 6, 23), (0, 20, 20, 20), (2, 20, 7, 24)] σ) 21 = 10 := by
    show ((c_do [(0, 20, 10, 10), (2, 20, 0, 21), (0, 20, 10, 10), (2, 20, 1, 22), (1, 20, 2, 0), (1, 20, 3, 0), (1, 20, 4, 71), (1, 20, 5, 0), (0, 20, 20, 20), (2, 20, 6, 23), (0, 20, 20, 20), (2, 20, 7, 24)] σ).1 21).2 = 10
    rw [c_do_k, hs]
    rfl
  have r0 : z_r (c_do [(0, 20, 10, 10), (2, 20, 0, 21), (0, 20, 10, 10), (2, 20, 1, 22), (1, 20, 2, 0), (1, 20, 3, 0), (1, 20, 4, 71), (1, 20, 5, 0), (0, 20, 20, 20), (2, 20, 6, 23), (0, 20, 20, 20), (2, 20, 7, 24)] σ) 20 0 = 21 := by
    show (c_do [(0, 20, 10, 10), (2, 20, 0, 21), (0, 20, 10, 10), (2, 20, 1, 22), (1, 20, 2, 0), (1, 20, 3, 0), (1, 20, 4, 71), (1, 20, 5, 0), (0, 20, 20, 20), (2, 20, 6, 23), (0, 20, 20, 20), (2, 20, 7, 24)] σ).2.2.2.1 20 0 = 21
    rw [c_do_r, hs]
    rfl
  have f := fl 10 0 (c_do [(0, 20, 10, 10), (2, 20, 0, 21), (0, 20, 10, 10), (2, 20, 1, 22), (1, 20, 2, 0), (1, 20, 3, 0), (1, 20, 4, 71), (1, 20, 5, 0), (0, 20, 20, 20), (2, 20, 6, 23), (0, 20, 20, 20), (2, 20, 7, 24)] σ) rfl k0 l0
  have cf : z_call (d + 2) 4 [vr 21, vi (-1 : Int32)] (c_do [(0, 20, 10, 10), (2, 20, 0, 21), (0, 20, 10, 10), (2, 20, 1, 22), (1, 20, 2, 0), (1, 20, 3, 0), (1, 20, 4, 71), (1, 20, 5, 0), (0, 20, 20, 20), (2, 20, 6, 23), (0, 20, 20, 20), (2, 20, 7, 24)] σ) = some (vi 0, c_do o_1 σ) := by
    rw [e_Ar_fill, k0, l0]
    exact f
  show z_bV (z_call (d + 2) 4 [vr (z_r (c_do [(0, 20, 10, 10), (2, 20, 0, 21), (0, 20, 10, 10), (2, 20, 1, 22), (1, 20, 2, 0), (1, 20, 3, 0), (1, 20, 4, 71), (1, 20, 5, 0), (0, 20, 20, 20), (2, 20, 6, 23), (0, 20, 20, 20), (2, 20, 7, 24)] σ) 20 0), vi (-1 : Int32)] (c_do [(0, 20, 10, 10), (2, 20, 0, 21), (0, 20, 10, 10), (2, 20, 1, 22), (1, 20, 2, 0), (1, 20, 3, 0), (1, 20, 4, 71), (1, 20, 5, 0), (0, 20, 20, 20), (2, 20, 6, 23), (0, 20, 20, 20), (2, 20, 7, 24)] σ)) _ = _
  rw [r0, cf]
  rfl
def o_2 : List ZO := [(0, 20, 720, 720), (2, 25, 0, 26), (1, 25, 1, 0), (1, 25, 2, 0)]
theorem o_2_a : c_na o_2 = 1 := rfl
theorem o_2_c (d : Nat) (σ : ZM) (hs : z_sz σ = 26) (hk : z_kd σ 25 = 8) : z_call (d + 3) 6 [vr 25] σ = some (vi 0, c_do o_2 σ) := by
  have ob := fun σ => zc_obj (d + 1) (r := 25) σ ⟨by decide, by decide⟩
  rw [e_St_init, ob]
  simp (disch := first | assumption | omega | decide | (simp only [zs_ui, zs_ur, zs_al, hs, Nat.reduceAdd]; omega)) only [zk_ui, zk_ur, zk_al, zs_ui, zs_ur, zs_al, hs, hk, Nat.reduceAdd, Nat.reduceBEq, beq_self_eq_true, z_g_t, ↓z_x_eq, z_bV_s]
  rfl
def o_3 : List ZO := [(1, 27, 0, 0), (0, 20, 8, 8), (2, 27, 1, 28), (0, 20, 8, 8), (2, 27, 2, 29), (1, 27, 3, 0), (0, 20, 8, 8), (2, 27, 4, 30), (0, 20, 8, 8), (2, 27, 5, 31), (0, 20, 8, 8), (2, 27, 6, 32)]
theorem o_3_a : c_na o_3 = 5 := rfl
theorem o_3_c (d : Nat) (σ : ZM) (hs : z_sz σ = 28) (hk : z_kd σ 27 = 10) : z_call (d + 3) 7 [vr 27] σ = some (vi 0, c_do o_3 σ) := by
  have ob := fun σ => zc_obj (d + 1) (r := 27) σ ⟨by decide, by decide⟩
  rw [e_To_init, ob]
  simp (disch := first | assumption | omega | decide | (simp only [zs_ui, zs_ur, zs_al, hs, Nat.reduceAdd]; omega)) only [zk_ui, zk_ur, zk_al, zs_ui, zs_ur, zs_al, hs, hk, Nat.reduceAdd, Nat.reduceBEq, beq_self_eq_true, z_g_t, ↓z_x_eq, z_bV_s]
  rfl
def o_4 : List ZO := [(1, 33, 0, 0), (0, 20, 10, 10), (2, 33, 1, 34), (0, 20, 10, 10), (2, 33, 2, 35), (1, 33, 3, 0), (0, 20, 10, 10), (2, 33, 4, 36), (0, 20, 10, 10), (2, 33, 5, 37), (0, 20, 10, 10), (2, 33, 6, 38), (1, 33, 7, 0), (0, 20, 12, 12), (2, 33, 8, 39), (0, 20, 12, 12), (2, 33, 9, 40), (1, 33, 10, 0), (0, 24, 4, 4), (2, 33, 11, 41), (1, 33, 12, (-1))]
theorem o_4_a : c_na o_4 = 8 := rfl
theorem o_4_c (d : Nat) (σ : ZM) (hs : z_sz σ = 34) (hk : z_kd σ 33 = 4) : z_call (d + 3) 3 [vr 33] σ = some (vi 0, c_do o_4 σ) := by
  have ob := fun σ => zc_obj (d + 1) (r := 33) σ ⟨by decide, by decide⟩
  rw [e_H_init, ob]
  simp (disch := first | assumption | omega | decide | (simp only [zs_ui, zs_ur, zs_al, hs, Nat.reduceAdd]; omega)) only [zk_ui, zk_ur, zk_al, zs_ui, zs_ur, zs_al, hs, hk, Nat.reduceAdd, Nat.reduceBEq, beq_self_eq_true, z_g_t, ↓z_x_eq, z_bV_s]
  rfl
def o_5 : List ZO := [(0, 20, 10, 10), (2, 42, 0, 43), (0, 20, 10, 10), (2, 42, 1, 44), (1, 42, 2, 0), (1, 42, 3, 0), (1, 42, 4, 71), (1, 42, 5, 0), (0, 20, 20, 20), (2, 42, 6, 45), (0, 20, 20, 20), (2, 42, 7, 46), (1, 43, 0, (-1)), (1, 43, 1, (-1)), (1, 43, 2, (-1)), (1, 43, 3, (-1)), (1, 43, 4, (-1)), (1, 43, 5, (-1)), (1, 43, 6, (-1)), (1, 43, 7, (-1)), (1, 43, 8, (-1)), (1, 43, 9, (-1))]
theorem o_5_a : c_na o_5 = 4 := rfl
theorem o_5_c (d : Nat) (σ : ZM) (hs : z_sz σ = 43) (hk : z_kd σ 42 = 5) : z_call (d + 3) 5 [vr 42] σ = some (vi 0, c_do o_5 σ) := by
  have ob := fun σ => zc_obj (d + 1) (r := 42) σ ⟨by decide, by decide⟩
  have fl : ∀ (x : Nat) (i : Nat) (τ : ZM), x + i = 10 → z_kd τ 43 = 20 → z_ln τ 43 = 10 → z_w d_Ar_fill (z_call (d + 1)) 5 [some (vr 43), some (vi (-1 : Int32)), some (vi (iI i)), some (vi (iI 10))] [] τ = some (vi 0, c_do ((List.range' i x).map (fun j => ((1 : Nat), 43, j, (-1 : Int)))) τ) := by
    intro x
    induction x with
    | zero =>
      intro i τ hx k l
      rw [e_Ar_fill_5, if_neg (by rw [iI_lt ⟨⟨by omega, by omega⟩, ⟨by omega, by omega⟩⟩]; omega)]
      rfl
    | succ x ih =>
      intro i τ hx k l
      have hi := ih (i + 1) (z_ui τ 43 i (iI (-1))) (by omega) k l
      have at' : (z_at τ 43 20 (iI i) && Nat.ble 10 43) = true := by
        unfold z_at z_ix
        rw [k, l, iI_natn i ⟨rfl, by omega⟩, decide_eq_true (show (0 : Int32) ≤ iI i from by
          have z : (0 : Int32) = iI 0 := rfl
          rw [z, iI_le ⟨⟨by omega, by omega⟩, ⟨by omega, by omega⟩⟩]; omega), decide_eq_true (show i < 10 by omega)]
        rfl
      have one : (1 : Int32) = iI 1 := rfl
      rw [e_Ar_fill_5, if_pos (by rw [iI_lt ⟨⟨by omega, by omega⟩, ⟨by omega, by omega⟩⟩]; omega), at', z_g_t, z_x_eq, iI_m1, one, iI_add, iI_natn i ⟨rfl, by omega⟩, show (i : Int) + 1 = ((i + 1 : Nat) : Int) by omega]
      rw [iI_m1] at hi
      rw [hi]
      rfl
  rw [e_Mo_init, ob]
  simp (disch := first | assumption | omega | decide | (simp only [zs_ui, zs_ur, zs_al, hs, Nat.reduceAdd]; omega)) only [zk_ui, zk_ur, zk_al, zs_ui, zs_ur, zs_al, hs, hk, Nat.reduceAdd, Nat.reduceBEq, beq_self_eq_true, z_g_t, ↓z_x_eq, z_bV_s]
  have k0 : z_kd (c_do [(0, 20, 10, 10), (2, 42, 0, 43), (0, 20, 10, 10), (2, 42, 1, 44), (1, 42, 2, 0), (1, 42, 3, 0), (1, 42, 4, 71), (1, 42, 5, 0), (0, 20, 20, 20), (2, 42, 6, 45), (0, 20, 20, 20), (2, 42, 7, 46)] σ) 43 = 20 := by
    show ((c_do [(0, 20, 10, 10), (2, 42, 0, 43), (0, 20, 10, 10), (2, 42, 1, 44), (1, 42, 2, 0), (1, 42, 3, 0), (1, 42, 4, 71), (1, 42, 5, 0), (0, 20, 20, 20), (2, 42, 6, 45), (0, 20, 20, 20), (2, 42, 7, 46)] σ).1 43).1 = 20
    rw [c_do_k, hs]
    rfl
  have l0 : z_ln (c_do [(0, 20, 10, 10), (2, 42, 0, 43), (0, 20, 10, 10), (2, 42, 1, 44), (1, 42, 2, 0), (1, 42, 3, 0), (1, 42, 4, 71), (1, 42, 5, 0), (0, 20, 20, 20), (2, 42, 6, 45), (0, 20, 20, 20), (2, 42, 7, 46)] σ) 43 = 10 := by
    show ((c_do [(0, 20, 10, 10), (2, 42, 0, 43), (0, 20, 10, 10), (2, 42, 1, 44), (1, 42, 2, 0), (1, 42, 3, 0), (1, 42, 4, 71), (1, 42, 5, 0), (0, 20, 20, 20), (2, 42, 6, 45), (0, 20, 20, 20), (2, 42, 7, 46)] σ).1 43).2 = 10
    rw [c_do_k, hs]
    rfl
  have r0 : z_r (c_do [(0, 20, 10, 10), (2, 42, 0, 43), (0, 20, 10, 10), (2, 42, 1, 44), (1, 42, 2, 0), (1, 42, 3, 0), (1, 42, 4, 71), (1, 42, 5, 0), (0, 20, 20, 20), (2, 42, 6, 45), (0, 20, 20, 20), (2, 42, 7, 46)] σ) 42 0 = 43 := by
    show (c_do [(0, 20, 10, 10), (2, 42, 0, 43), (0, 20, 10, 10), (2, 42, 1, 44), (1, 42, 2, 0), (1, 42, 3, 0), (1, 42, 4, 71), (1, 42, 5, 0), (0, 20, 20, 20), (2, 42, 6, 45), (0, 20, 20, 20), (2, 42, 7, 46)] σ).2.2.2.1 42 0 = 43
    rw [c_do_r, hs]
    rfl
  have f := fl 10 0 (c_do [(0, 20, 10, 10), (2, 42, 0, 43), (0, 20, 10, 10), (2, 42, 1, 44), (1, 42, 2, 0), (1, 42, 3, 0), (1, 42, 4, 71), (1, 42, 5, 0), (0, 20, 20, 20), (2, 42, 6, 45), (0, 20, 20, 20), (2, 42, 7, 46)] σ) rfl k0 l0
  have cf : z_call (d + 2) 4 [vr 43, vi (-1 : Int32)] (c_do [(0, 20, 10, 10), (2, 42, 0, 43), (0, 20, 10, 10), (2, 42, 1, 44), (1, 42, 2, 0), (1, 42, 3, 0), (1, 42, 4, 71), (1, 42, 5, 0), (0, 20, 20, 20), (2, 42, 6, 45), (0, 20, 20, 20), (2, 42, 7, 46)] σ) = some (vi 0, c_do o_5 σ) := by
    rw [e_Ar_fill, k0, l0]
    exact f
  show z_bV (z_call (d + 2) 4 [vr (z_r (c_do [(0, 20, 10, 10), (2, 42, 0, 43), (0, 20, 10, 10), (2, 42, 1, 44), (1, 42, 2, 0), (1, 42, 3, 0), (1, 42, 4, 71), (1, 42, 5, 0), (0, 20, 20, 20), (2, 42, 6, 45), (0, 20, 20, 20), (2, 42, 7, 46)] σ) 42 0), vi (-1 : Int32)] (c_do [(0, 20, 10, 10), (2, 42, 0, 43), (0, 20, 10, 10), (2, 42, 1, 44), (1, 42, 2, 0), (1, 42, 3, 0), (1, 42, 4, 71), (1, 42, 5, 0), (0, 20, 20, 20), (2, 42, 6, 45), (0, 20, 20, 20), (2, 42, 7, 46)] σ)) _ = _
  rw [r0, cf]
  rfl
def o_6 : List ZO := [(0, 20, 720, 720), (2, 47, 0, 48), (1, 47, 1, 0), (1, 47, 2, 0)]
theorem o_6_a : c_na o_6 = 1 := rfl
theorem o_6_c (d : Nat) (σ : ZM) (hs : z_sz σ = 48) (hk : z_kd σ 47 = 8) : z_call (d + 3) 6 [vr 47] σ = some (vi 0, c_do o_6 σ) := by
  have ob := fun σ => zc_obj (d + 1) (r := 47) σ ⟨by decide, by decide⟩
  rw [e_St_init, ob]
  simp (disch := first | assumption | omega | decide | (simp only [zs_ui, zs_ur, zs_al, hs, Nat.reduceAdd]; omega)) only [zk_ui, zk_ur, zk_al, zs_ui, zs_ur, zs_al, hs, hk, Nat.reduceAdd, Nat.reduceBEq, beq_self_eq_true, z_g_t, ↓z_x_eq, z_bV_s]
  rfl
def o_7 : List ZO := [(1, 49, 0, 0), (0, 20, 8, 8), (2, 49, 1, 50), (0, 20, 8, 8), (2, 49, 2, 51), (1, 49, 3, 0), (0, 20, 8, 8), (2, 49, 4, 52), (0, 20, 8, 8), (2, 49, 5, 53), (0, 20, 8, 8), (2, 49, 6, 54)]
theorem o_7_a : c_na o_7 = 5 := rfl
theorem o_7_c (d : Nat) (σ : ZM) (hs : z_sz σ = 50) (hk : z_kd σ 49 = 10) : z_call (d + 3) 7 [vr 49] σ = some (vi 0, c_do o_7 σ) := by
  have ob := fun σ => zc_obj (d + 1) (r := 49) σ ⟨by decide, by decide⟩
  rw [e_To_init, ob]
  simp (disch := first | assumption | omega | decide | (simp only [zs_ui, zs_ur, zs_al, hs, Nat.reduceAdd]; omega)) only [zk_ui, zk_ur, zk_al, zs_ui, zs_ur, zs_al, hs, hk, Nat.reduceAdd, Nat.reduceBEq, beq_self_eq_true, z_g_t, ↓z_x_eq, z_bV_s]
  rfl
def o_8 : List ZO := [(0, 20, 301, 301), (2, 56, 0, 57), (0, 20, 301, 301), (2, 56, 1, 58), (1, 56, 2, 0), (1, 56, 3, 0), (1, 56, 4, 0), (0, 20, 300, 300), (2, 56, 5, 59), (1, 56, 6, 0), (1, 56, 7, 1), (2, 56, 8, 0), (2, 56, 9, 0), (2, 56, 10, 0), (0, 20, 96, 96), (2, 56, 11, 60), (1, 56, 12, 0), (1, 56, 13, 0), (1, 56, 14, 0), (1, 56, 15, (-1))]
theorem o_8_a : c_na o_8 = 4 := rfl
theorem o_8_c (d : Nat) (σ : ZM) (hs : z_sz σ = 57) (hk : z_kd σ 56 = 7) : z_call (d + 3) 8 [vr 56] σ = some (vi 0, c_do o_8 σ) := by
  have ob := fun σ => zc_obj (d + 1) (r := 56) σ ⟨by decide, by decide⟩
  rw [e_Re_init, ob]
  simp (disch := first | assumption | omega | decide | (simp only [zs_ui, zs_ur, zs_al, hs, Nat.reduceAdd]; omega)) only [zk_ui, zk_ur, zk_al, zs_ui, zs_ur, zs_al, hs, hk, Nat.reduceAdd, Nat.reduceBEq, beq_self_eq_true, z_g_t, ↓z_x_eq, z_bV_s]
  rfl
def o_9 : List ZO := [(0, 20, 10, 10), (2, 61, 2, 62), (0, 20, 64, 64), (2, 61, 3, 63), (0, 20, 181, 181), (2, 61, 4, 64), (1, 61, 5, 0), (1, 61, 6, 0), (2, 61, 0, 11), (2, 61, 1, 20)]
theorem o_9_a : c_na o_9 = 3 := rfl
theorem o_9_c (d : Nat) (σ : ZM) (hs : z_sz σ = 62) (hk : z_kd σ 61 = 1) : z_call (d + 3) 9 [vr 61, vr 11, vr 20] σ = some (vi 0, c_do o_9 σ) := by
  have ob := fun σ => zc_obj (d + 1) (r := 61) σ ⟨by decide, by decide⟩
  rw [e_Br_init, ob]
  simp (disch := first | assumption | omega | decide | (simp only [zs_ui, zs_ur, zs_al, hs, Nat.reduceAdd]; omega)) only [zk_ui, zk_ur, zk_al, zs_ui, zs_ur, zs_al, hs, hk, Nat.reduceAdd, Nat.reduceBEq, beq_self_eq_true, z_g_t, ↓z_x_eq, z_bV_s]
  rfl
def o_10 : List ZO := [(2, 65, 0, 11), (2, 65, 1, 20), (2, 65, 2, 25), (2, 65, 3, 61)]
theorem o_10_a : c_na o_10 = 0 := rfl
theorem o_10_c (d : Nat) (σ : ZM) (hs : z_sz σ = 66) (hk : z_kd σ 65 = 2) : z_call (d + 3) 10 [vr 65, vr 11, vr 20, vr 25, vr 61] σ = some (vi 0, c_do o_10 σ) := by
  have ob := fun σ => zc_obj (d + 1) (r := 65) σ ⟨by decide, by decide⟩
  rw [e_De_init, ob]
  simp (disch := first | assumption | omega | decide | (simp only [zs_ui, zs_ur, zs_al, hs, Nat.reduceAdd]; omega)) only [zk_ui, zk_ur, zk_al, zs_ui, zs_ur, zs_al, hs, hk, Nat.reduceAdd, Nat.reduceBEq, beq_self_eq_true, z_g_t, ↓z_x_eq, z_bV_s]
  rfl
def o_11 : List ZO := [(0, 20, 12, 12), (2, 66, 4, 67), (0, 20, 8, 8), (2, 66, 5, 68), (0, 20, 20, 20), (2, 66, 6, 69), (2, 66, 0, 11), (2, 66, 1, 20), (2, 66, 2, 27), (2, 66, 3, 61)]
theorem o_11_a : c_na o_11 = 3 := rfl
theorem o_11_c (d : Nat) (σ : ZM) (hs : z_sz σ = 67) (hk : z_kd σ 66 = 6) : z_call (d + 3) 11 [vr 66, vr 11, vr 20, vr 27, vr 61] σ = some (vi 0, c_do o_11 σ) := by
  have ob := fun σ => zc_obj (d + 1) (r := 66) σ ⟨by decide, by decide⟩
  rw [e_Qu_init, ob]
  simp (disch := first | assumption | omega | decide | (simp only [zs_ui, zs_ur, zs_al, hs, Nat.reduceAdd]; omega)) only [zk_ui, zk_ur, zk_al, zs_ui, zs_ur, zs_al, hs, hk, Nat.reduceAdd, Nat.reduceBEq, beq_self_eq_true, z_g_t, ↓z_x_eq, z_bV_s]
  rfl
def o_12 : List ZO := [(0, 20, 5, 5), (2, 70, 4, 71), (0, 20, 5, 5), (2, 70, 5, 72), (0, 20, 5, 5), (2, 70, 6, 73), (0, 20, 25, 25), (2, 70, 7, 74), (0, 20, 120, 120), (2, 70, 8, 75), (0, 20, 5, 5), (2, 70, 9, 76), (0, 20, 32, 32), (2, 70, 10, 77), (0, 20, 32, 32), (2, 70, 11, 78), (0, 20, 32, 32), (2, 70, 12, 79), (2, 70, 0, 11), (2, 70, 1, 20), (2, 70, 2, 27), (2, 70, 3, 61)]
theorem o_12_a : c_na o_12 = 9 := rfl
theorem o_12_c (d : Nat) (σ : ZM) (hs : z_sz σ = 71) (hk : z_kd σ 70 = 3) : z_call (d + 3) 12 [vr 70, vr 11, vr 20, vr 27, vr 61] σ = some (vi 0, c_do o_12 σ) := by
  have ob := fun σ => zc_obj (d + 1) (r := 70) σ ⟨by decide, by decide⟩
  rw [e_Ga_init, ob]
  simp (disch := first | assumption | omega | decide | (simp only [zs_ui, zs_ur, zs_al, hs, Nat.reduceAdd]; omega)) only [zk_ui, zk_ur, zk_al, zs_ui, zs_ur, zs_al, hs, hk, Nat.reduceAdd, Nat.reduceBEq, beq_self_eq_true, z_g_t, ↓z_x_eq, z_bV_s]
  rfl

/-! THE PURE PART, 48: image, back: rows copied (printed by gen/image.py) -/
def z_ut (T : ZT) (r k x : Nat) : ZT := (T.1, (fun a j => if a = r ∧ j = k then x else T.2.1 a j), T.2.2)
theorem z_rt_cg {T T' : ZT} {a j : Nat} (h : T'.2.1 a j = T.2.1 a j) : z_rt T' a j = z_rt T a j := by unfold z_rt; rw [h]
theorem z_kt_cg {T T' : ZT} {a : Nat} (h : T'.1 a = T.1 a) : z_kt T' a = z_kt T a := by unfold z_kt; rw [h]
theorem z_rt_ut {T : ZT} {r k x a j : Nat} (h : a ≠ r) : z_rt (z_ut T r k x) a j = z_rt T a j := z_rt_cg (if_neg (fun c => h c.1))
theorem z_rt_uk {T : ZT} {r k x a j : Nat} (h : j ≠ k) : z_rt (z_ut T r k x) a j = z_rt T a j := z_rt_cg (if_neg (fun c => h c.2))
theorem z_kd_ut (T : ZT) (G : ZG) (s : ZG × ZG) (r k x a : Nat) : z_kd (z_Y (z_ut T r k x) G s) a = z_kd (z_Y T G s) a := rfl
theorem z_ur_Y (T : ZT) (G : ZG) (s : ZG × ZG) {r k : Nat} (x : Nat) (h : ∀ T : ZT, z_rt T r k = T.2.1 r k) : z_ur (z_Y T G s) r k x = z_Y (z_ut T r k x) G s := by
  unfold z_ur z_Y
  refine Prod.ext rfl (Prod.ext rfl (Prod.ext rfl (Prod.ext ?_ rfl)))
  funext a j
  dsimp only
  by_cases c : a = r ∧ j = k
  · rw [if_pos c, c.1, c.2, h]; exact (if_pos ⟨rfl, rfl⟩).symm
  · rw [if_neg c]; exact (z_rt_cg (if_neg c)).symm
theorem z_ur_19 (T : ZT) (G : ZG) (s : ZG × ZG) (k x : Nat) : z_ur (z_Y T G s) 19 k x = z_Y (z_ut T 19 k x) G s := z_ur_Y T G s x (fun _ => rfl)
theorem z_ur_41 (T : ZT) (G : ZG) (s : ZG × ZG) (k x : Nat) : z_ur (z_Y T G s) 41 k x = z_Y (z_ut T 41 k x) G s := z_ur_Y T G s x (fun _ => rfl)
theorem z_r_19 (T : ZT) (G : ZG) (s : ZG × ZG) (k : Nat) : z_r (z_Y T G s) 19 k = z_rt T 19 k := rfl
theorem z_r_41 (T : ZT) (G : ZG) (s : ZG × ZG) (k : Nat) : z_r (z_Y T G s) 41 k = z_rt T 41 k := rfl
theorem z_n0 : (iI 0).toNatClampNeg = 0 := rfl
theorem z_n1 : (iI 1).toNatClampNeg = 1 := rfl
theorem z_n2 : (iI 2).toNatClampNeg = 2 := rfl
theorem z_n3 : (iI 3).toNatClampNeg = 3 := rfl
/-- four references copied -/
def z_t4 (T : ZT) (a b : Nat) : ZT := z_ut (z_ut (z_ut (z_ut T b 0 (z_rt T a 0)) b 1 (z_rt T a 1)) b 2 (z_rt T a 2)) b 3 (z_rt T a 3)
theorem z_t4_ne {T : ZT} {a b r j : Nat} (h : r ≠ b) : z_rt (z_t4 T a b) r j = z_rt T r j := by
  unfold z_t4
  rw [z_rt_ut h, z_rt_ut h, z_rt_ut h, z_rt_ut h]
theorem z_t4_19 {T : ZT} {j : Nat} (h : j < 4) : z_rt (z_t4 T 41 19) 19 j = z_rt T 41 j := by
  rcases (show j = 0 ∨ j = 1 ∨ j = 2 ∨ j = 3 by omega) with rfl | rfl | rfl | rfl <;> rfl
theorem z_t4_41 {T : ZT} {j : Nat} (h : j < 4) : z_rt (z_t4 T 19 41) 41 j = z_rt T 19 j := by
  rcases (show j = 0 ∨ j = 1 ∨ j = 2 ∨ j = 3 by omega) with rfl | rfl | rfl | rfl <;> rfl
theorem z_t4_kt (T : ZT) (a b r : Nat) : z_kt (z_t4 T a b) r = z_kt T r := rfl
theorem z_t4_s (T : ZT) (a b : Nat) : (z_t4 T a b).2.2 = T.2.2 ∧ (z_t4 T a b).1 = T.1 := ⟨rfl, rfl⟩

theorem z_tcI : (∀ d T G s, z_call (d + 1) 1 [vr 12, vi (iI 0), vr 34, vi (iI 0), vi (iI 10)] (z_Y T G s) = some (vi (iI 0), z_Y T (z_up G 34 (z_cpr (G 12) (G 34) 0 0 10)) s)) ∧
  (∀ d T G s, z_call (d + 1) 1 [vr 13, vi (iI 0), vr 35, vi (iI 0), vi (iI 10)] (z_Y T G s) = some (vi (iI 0), z_Y T (z_up G 35 (z_cpr (G 13) (G 35) 0 0 10)) s)) ∧
  (∀ d T G s, z_call (d + 1) 1 [vr 14, vi (iI 0), vr 36, vi (iI 0), vi (iI 10)] (z_Y T G s) = some (vi (iI 0), z_Y T (z_up G 36 (z_cpr (G 14) (G 36) 0 0 10)) s)) ∧
  (∀ d T G s, z_call (d + 1) 1 [vr 15, vi (iI 0), vr 37, vi (iI 0), vi (iI 10)] (z_Y T G s) = some (vi (iI 0), z_Y T (z_up G 37 (z_cpr (G 15) (G 37) 0 0 10)) s)) ∧
  (∀ d T G s, z_call (d + 1) 1 [vr 16, vi (iI 0), vr 38, vi (iI 0), vi (iI 10)] (z_Y T G s) = some (vi (iI 0), z_Y T (z_up G 38 (z_cpr (G 16) (G 38) 0 0 10)) s)) ∧
  (∀ d T G s, z_call (d + 1) 1 [vr 17, vi (iI 0), vr 39, vi (iI 0), vi (iI 12)] (z_Y T G s) = some (vi (iI 0), z_Y T (z_up G 39 (z_cpr (G 17) (G 39) 0 0 12)) s)) ∧
  (∀ d T G s, z_call (d + 1) 1 [vr 18, vi (iI 0), vr 40, vi (iI 0), vi (iI 12)] (z_Y T G s) = some (vi (iI 0), z_Y T (z_up G 40 (z_cpr (G 18) (G 40) 0 0 12)) s)) ∧
  (∀ d T G s, z_call (d + 1) 1 [vr 21, vi (iI 0), vr 43, vi (iI 0), vi (iI 10)] (z_Y T G s) = some (vi (iI 0), z_Y T (z_up G 43 (z_cpr (G 21) (G 43) 0 0 10)) s)) ∧
  (∀ d T G s, z_call (d + 1) 1 [vr 22, vi (iI 0), vr 44, vi (iI 0), vi (iI 10)] (z_Y T G s) = some (vi (iI 0), z_Y T (z_up G 44 (z_cpr (G 22) (G 44) 0 0 10)) s)) ∧
  (∀ d T G s, z_call (d + 1) 1 [vr 23, vi (iI 0), vr 45, vi (iI 0), vi (iI 20)] (z_Y T G s) = some (vi (iI 0), z_Y T (z_up G 45 (z_cpr (G 23) (G 45) 0 0 20)) s)) ∧
  (∀ d T G s, z_call (d + 1) 1 [vr 24, vi (iI 0), vr 46, vi (iI 0), vi (iI 20)] (z_Y T G s) = some (vi (iI 0), z_Y T (z_up G 46 (z_cpr (G 24) (G 46) 0 0 20)) s)) ∧
  (∀ d T G s, z_call (d + 1) 1 [vr 26, vi (iI 0), vr 48, vi (iI 0), vi (iI 720)] (z_Y T G s) = some (vi (iI 0), z_Y T (z_up G 48 (z_cpr (G 26) (G 48) 0 0 720)) s)) ∧
  (∀ d T G s, z_call (d + 1) 1 [vr 28, vi (iI 0), vr 50, vi (iI 0), vi (iI 8)] (z_Y T G s) = some (vi (iI 0), z_Y T (z_up G 50 (z_cpr (G 28) (G 50) 0 0 8)) s)) ∧
  (∀ d T G s, z_call (d + 1) 1 [vr 29, vi (iI 0), vr 51, vi (iI 0), vi (iI 8)] (z_Y T G s) = some (vi (iI 0), z_Y T (z_up G 51 (z_cpr (G 29) (G 51) 0 0 8)) s)) ∧
  (∀ d T G s, z_call (d + 1) 1 [vr 30, vi (iI 0), vr 52, vi (iI 0), vi (iI 8)] (z_Y T G s) = some (vi (iI 0), z_Y T (z_up G 52 (z_cpr (G 30) (G 52) 0 0 8)) s)) ∧
  (∀ d T G s, z_call (d + 1) 1 [vr 31, vi (iI 0), vr 53, vi (iI 0), vi (iI 8)] (z_Y T G s) = some (vi (iI 0), z_Y T (z_up G 53 (z_cpr (G 31) (G 53) 0 0 8)) s)) ∧
  (∀ d T G s, z_call (d + 1) 1 [vr 32, vi (iI 0), vr 54, vi (iI 0), vi (iI 8)] (z_Y T G s) = some (vi (iI 0), z_Y T (z_up G 54 (z_cpr (G 32) (G 54) 0 0 8)) s)) := ⟨fun d T G s => p_copy d T G s (a := 12) (b := 34) (la := 10) (lb := 10) (i := 0) (j := 0) (n := 10) (fun _ _ => ⟨rfl, rfl⟩) (fun _ _ => ⟨rfl, rfl⟩) (by omega) (by omega) rfl rfl rfl (by omega),
  fun d T G s => p_copy d T G s (a := 13) (b := 35) (la := 10) (lb := 10) (i := 0) (j := 0) (n := 10) (fun _ _ => ⟨rfl, rfl⟩) (fun _ _ => ⟨rfl, rfl⟩) (by omega) (by omega) rfl rfl rfl (by omega),
  fun d T G s => p_copy d T G s (a := 14) (b := 36) (la := 10) (lb := 10) (i := 0) (j := 0) (n := 10) (fun _ _ => ⟨rfl, rfl⟩) (fun _ _ => ⟨rfl, rfl⟩) (by omega) (by omega) rfl rfl rfl (by omega),
  fun d T G s => p_copy d T G s (a := 15) (b := 37) (la := 10) (lb := 10) (i := 0) (j := 0) (n := 10) (fun _ _ => ⟨rfl, rfl⟩) (fun _ _ => ⟨rfl, rfl⟩) (by omega) (by omega) rfl rfl rfl (by omega),
  fun d T G s => p_copy d T G s (a := 16) (b := 38) (la := 10) (lb := 10) (i := 0) (j := 0) (n := 10) (fun _ _ => ⟨rfl, rfl⟩) (fun _ _ => ⟨rfl, rfl⟩) (by omega) (by omega) rfl rfl rfl (by omega),
  fun d T G s => p_copy d T G s (a := 17) (b := 39) (la := 12) (lb := 12) (i := 0) (j := 0) (n := 12) (fun _ _ => ⟨rfl, rfl⟩) (fun _ _ => ⟨rfl, rfl⟩) (by omega) (by omega) rfl rfl rfl (by omega),
  fun d T G s => p_copy d T G s (a := 18) (b := 40) (la := 12) (lb := 12) (i := 0) (j := 0) (n := 12) (fun _ _ => ⟨rfl, rfl⟩) (fun _ _ => ⟨rfl, rfl⟩) (by omega) (by omega) rfl rfl rfl (by omega),
  fun d T G s => p_copy d T G s (a := 21) (b := 43) (la := 10) (lb := 10) (i := 0) (j := 0) (n := 10) (fun _ _ => ⟨rfl, rfl⟩) (fun _ _ => ⟨rfl, rfl⟩) (by omega) (by omega) rfl rfl rfl (by omega),
  fun d T G s => p_copy d T G s (a := 22) (b := 44) (la := 10) (lb := 10) (i := 0) (j := 0) (n := 10) (fun _ _ => ⟨rfl, rfl⟩) (fun _ _ => ⟨rfl, rfl⟩) (by omega) (by omega) rfl rfl rfl (by omega),
  fun d T G s => p_copy d T G s (a := 23) (b := 45) (la := 20) (lb := 20) (i := 0) (j := 0) (n := 20) (fun _ _ => ⟨rfl, rfl⟩) (fun _ _ => ⟨rfl, rfl⟩) (by omega) (by omega) rfl rfl rfl (by omega),
  fun d T G s => p_copy d T G s (a := 24) (b := 46) (la := 20) (lb := 20) (i := 0) (j := 0) (n := 20) (fun _ _ => ⟨rfl, rfl⟩) (fun _ _ => ⟨rfl, rfl⟩) (by omega) (by omega) rfl rfl rfl (by omega),
  fun d T G s => p_copy d T G s (a := 26) (b := 48) (la := 720) (lb := 720) (i := 0) (j := 0) (n := 720) (fun _ _ => ⟨rfl, rfl⟩) (fun _ _ => ⟨rfl, rfl⟩) (by omega) (by omega) rfl rfl rfl (by omega),
  fun d T G s => p_copy d T G s (a := 28) (b := 50) (la := 8) (lb := 8) (i := 0) (j := 0) (n := 8) (fun _ _ => ⟨rfl, rfl⟩) (fun _ _ => ⟨rfl, rfl⟩) (by omega) (by omega) rfl rfl rfl (by omega),
  fun d T G s => p_copy d T G s (a := 29) (b := 51) (la := 8) (lb := 8) (i := 0) (j := 0) (n := 8) (fun _ _ => ⟨rfl, rfl⟩) (fun _ _ => ⟨rfl, rfl⟩) (by omega) (by omega) rfl rfl rfl (by omega),
  fun d T G s => p_copy d T G s (a := 30) (b := 52) (la := 8) (lb := 8) (i := 0) (j := 0) (n := 8) (fun _ _ => ⟨rfl, rfl⟩) (fun _ _ => ⟨rfl, rfl⟩) (by omega) (by omega) rfl rfl rfl (by omega),
  fun d T G s => p_copy d T G s (a := 31) (b := 53) (la := 8) (lb := 8) (i := 0) (j := 0) (n := 8) (fun _ _ => ⟨rfl, rfl⟩) (fun _ _ => ⟨rfl, rfl⟩) (by omega) (by omega) rfl rfl rfl (by omega),
  fun d T G s => p_copy d T G s (a := 32) (b := 54) (la := 8) (lb := 8) (i := 0) (j := 0) (n := 8) (fun _ _ => ⟨rfl, rfl⟩) (fun _ _ => ⟨rfl, rfl⟩) (by omega) (by omega) rfl rfl rfl (by omega)⟩
def k_hI (G : ZG) : ZG := (z_up (z_up (z_up (z_up (z_up (z_up (z_up (z_up G 33 (z_ro (z_ro (z_ro (z_ro (z_ro (G 33) 0 (G 11 0)) 3 (G 11 3)) 7 (G 11 7)) 10 (G 11 10)) 12 (G 11 12))) 34 (z_cpr (G 12) (G 34) 0 0 10)) 35 (z_cpr (G 13) (G 35) 0 0 10)) 36 (z_cpr (G 14) (G 36) 0 0 10)) 37 (z_cpr (G 15) (G 37) 0 0 10)) 38 (z_cpr (G 16) (G 38) 0 0 10)) 39 (z_cpr (G 17) (G 39) 0 0 12)) 40 (z_cpr (G 18) (G 40) 0 0 12))
theorem k_hI_ne (G : ZG) {r : Nat} (h : ¬ (33 ≤ r ∧ r ≤ 40)) : k_hI G r = G r := by
  unfold k_hI
  rw [z_up_ne _ _ (by omega), z_up_ne _ _ (by omega), z_up_ne _ _ (by omega), z_up_ne _ _ (by omega), z_up_ne _ _ (by omega), z_up_ne _ _ (by omega), z_up_ne _ _ (by omega), z_up_ne _ _ (by omega)]
theorem k_hI_f (G : ZG) : k_hI G 33 0 = G 11 0 ∧ k_hI G 33 3 = G 11 3 ∧ k_hI G 33 7 = G 11 7 ∧ k_hI G 33 10 = G 11 10 ∧ k_hI G 33 12 = G 11 12 ∧ (∀ k, 0 ≤ k → k < 10 → k_hI G 34 k = G 12 k) ∧ (∀ k, 0 ≤ k → k < 10 → k_hI G 35 k = G 13 k) ∧ (∀ k, 0 ≤ k → k < 10 → k_hI G 36 k = G 14 k) ∧ (∀ k, 0 ≤ k → k < 10 → k_hI G 37 k = G 15 k) ∧ (∀ k, 0 ≤ k → k < 10 → k_hI G 38 k = G 16 k) ∧ (∀ k, 0 ≤ k → k < 12 → k_hI G 39 k = G 17 k) ∧ (∀ k, 0 ≤ k → k < 12 → k_hI G 40 k = G 18 k) :=
  ⟨by unfold k_hI; rw [z_up_ne _ _ (by omega), z_up_ne _ _ (by omega), z_up_ne _ _ (by omega), z_up_ne _ _ (by omega), z_up_ne _ _ (by omega), z_up_ne _ _ (by omega), z_up_ne _ _ (by omega), z_up_eq, z_ro_ne _ _ (by omega), z_ro_ne _ _ (by omega), z_ro_ne _ _ (by omega), z_ro_ne _ _ (by omega), z_ro_eq],
   by unfold k_hI; rw [z_up_ne _ _ (by omega), z_up_ne _ _ (by omega), z_up_ne _ _ (by omega), z_up_ne _ _ (by omega), z_up_ne _ _ (by omega), z_up_ne _ _ (by omega), z_up_ne _ _ (by omega), z_up_eq, z_ro_ne _ _ (by omega), z_ro_ne _ _ (by omega), z_ro_ne _ _ (by omega), z_ro_eq],
   by unfold k_hI; rw [z_up_ne _ _ (by omega), z_up_ne _ _ (by omega), z_up_ne _ _ (by omega), z_up_ne _ _ (by omega), z_up_ne _ _ (by omega), z_up_ne _ _ (by omega), z_up_ne _ _ (by omega), z_up_eq, z_ro_ne _ _ (by omega), z_ro_ne _ _ (by omega), z_ro_eq],
   by unfold k_hI; rw [z_up_ne _ _ (by omega), z_up_ne _ _ (by omega), z_up_ne _ _ (by omega), z_up_ne _ _ (by omega), z_up_ne _ _ (by omega), z_up_ne _ _ (by omega), z_up_ne _ _ (by omega), z_up_eq, z_ro_ne _ _ (by omega), z_ro_eq],
   by unfold k_hI; rw [z_up_ne _ _ (by omega), z_up_ne _ _ (by omega), z_up_ne _ _ (by omega), z_up_ne _ _ (by omega), z_up_ne _ _ (by omega), z_up_ne _ _ (by omega), z_up_ne _ _ (by omega), z_up_eq, z_ro_eq],
   fun k a b => by unfold k_hI; rw [z_up_ne _ _ (by omega), z_up_ne _ _ (by omega), z_up_ne _ _ (by omega), z_up_ne _ _ (by omega), z_up_ne _ _ (by omega), z_up_ne _ _ (by omega), z_up_eq]; unfold z_cpr; rw [if_pos (by omega)]; exact f_eq (by omega),
   fun k a b => by unfold k_hI; rw [z_up_ne _ _ (by omega), z_up_ne _ _ (by omega), z_up_ne _ _ (by omega), z_up_ne _ _ (by omega), z_up_ne _ _ (by omega), z_up_eq]; unfold z_cpr; rw [if_pos (by omega)]; exact f_eq (by omega),
   fun k a b => by unfold k_hI; rw [z_up_ne _ _ (by omega), z_up_ne _ _ (by omega), z_up_ne _ _ (by omega), z_up_ne _ _ (by omega), z_up_eq]; unfold z_cpr; rw [if_pos (by omega)]; exact f_eq (by omega),
   fun k a b => by unfold k_hI; rw [z_up_ne _ _ (by omega), z_up_ne _ _ (by omega), z_up_ne _ _ (by omega), z_up_eq]; unfold z_cpr; rw [if_pos (by omega)]; exact f_eq (by omega),
   fun k a b => by unfold k_hI; rw [z_up_ne _ _ (by omega), z_up_ne _ _ (by omega), z_up_eq]; unfold z_cpr; rw [if_pos (by omega)]; exact f_eq (by omega),
   fun k a b => by unfold k_hI; rw [z_up_ne _ _ (by omega), z_up_eq]; unfold z_cpr; rw [if_pos (by omega)]; exact f_eq (by omega),
   fun k a b => by unfold k_hI; rw [z_up_eq]; unfold z_cpr; rw [if_pos (by omega)]; exact f_eq (by omega)⟩
theorem p_hI (d : Nat) (T : ZT) (G : ZG) (s : ZG × ZG) (hg : ∀ k G s, k < 4 → (z_rt T 19 k == 0 || z_kd (z_Y T G s) (z_rt T 19 k) == 9) = true) : z_call (d + 2) 316 [vr 33, vr 11] (z_Y T G s) = some (vi (iI 0), z_Y (z_t4 T 19 41) (k_hI G) s) := by
  have g0 := fun G s => hg 0 G s (by omega)
  have g1 := fun G s => hg 1 G s (by omega)
  have g2 := fun G s => hg 2 G s (by omega)
  have g3 := fun G s => hg 3 G s (by omega)
  unfold k_hI z_t4
  rw [e_H_copyFrom]
  simp -implicitDefEqProofs (disch := first | assumption | omega | rfl | (simp only [z_up_eq, z_up_app, ↓reduceIte, Nat.reduceEqDiff]; omega)) only [z_lit0, z_lit1, z_lit2, z_litl, iI_add, iI_sub, iI_mul, iI_neg, iI_and, iI_or, iI_xor, iI_shl, iI_shr, iI_ushr, iI_div, iI_b, iI_c, iI_i2l, lI_l2i, lI_add, lI_sub, lI_mul, lI_neg, lI_div, lI_or, lI_and, lI_shl, lI_shr, nI_iI, lg_lt0, lg_gt0, lg_eq0, i_ne0', l_ne0', iI_lt, iI_le, iI_eq, lI_lt, lI_le, lI_eq, zb_0, zb_fit, zb_fit0, zb_fit1, i_one_zero, i_w_in, z_tb0, z_tb1, z_tb2, z_tb3, z_tb4, z_tb5, z_tb6, z_tb7, z_tb8, z_tbl, z_tu0, z_tu1, z_tu2, z_i_62, z_i_63, z_i_86, z_i_88, z_l_Y, z_ui_62, z_ui_63, z_ui_86, z_ui_88, z_ul_Y, z_sz_Y, z_sw_Y, iI_nat, z_ix_t, z_at, Int.add_zero, Int.sub_zero, Int.zero_add, Int.mul_zero, ne_eq, Bool.false_eq_true, Bool.true_eq_false, reduceCtorEq, eq_self, and_true, true_and, and_false, false_and, and_self, not_true_eq_false, not_false_eq_true, decide_true, decide_false, ↓reduceIte, Int.reduceEq, Int.reduceNe, Int.reduceLT, Int.reduceLE, Int.reduceAdd, Int.reduceSub, Int.reduceMul, Int.reduceNeg, Nat.reduceAdd, Nat.reduceEqDiff, Nat.reduceBEq, ↓z_x_eq, z_g_t, z_bI_s, z_bL_s, z_bR_s, z_bV_s, Int.cast_ofNat_Int, beq_self_eq_true, Bool.and_true, Bool.true_and, Bool.and_self, Bool.or_true, Bool.true_or, Bool.false_and, Bool.and_false, Bool.false_or, Bool.or_false, Bool.not_false, Bool.not_true, if_true, if_false, ite_true, ite_false, z_up_eq, z_up_app, z_ro_eq, z_tcI, z_up_up, z_up_cm, z_ur_41, z_r_19, z_n0, z_n1, z_n2, z_n3, z_kd_ut, z_rt_ut, g0, g1, g2, g3]
  rw [e_H_copyFrom_139]
  simp -implicitDefEqProofs (disch := first | assumption | omega | rfl | (simp only [z_up_eq, z_up_app, ↓reduceIte, Nat.reduceEqDiff]; omega)) only [z_lit0, z_lit1, z_lit2, z_litl, iI_add, iI_sub, iI_mul, iI_neg, iI_and, iI_or, iI_xor, iI_shl, iI_shr, iI_ushr, iI_div, iI_b, iI_c, iI_i2l, lI_l2i, lI_add, lI_sub, lI_mul, lI_neg, lI_div, lI_or, lI_and, lI_shl, lI_shr, nI_iI, lg_lt0, lg_gt0, lg_eq0, i_ne0', l_ne0', iI_lt, iI_le, iI_eq, lI_lt, lI_le, lI_eq, zb_0, zb_fit, zb_fit0, zb_fit1, i_one_zero, i_w_in, z_tb0, z_tb1, z_tb2, z_tb3, z_tb4, z_tb5, z_tb6, z_tb7, z_tb8, z_tbl, z_tu0, z_tu1, z_tu2, z_i_62, z_i_63, z_i_86, z_i_88, z_l_Y, z_ui_62, z_ui_63, z_ui_86, z_ui_88, z_ul_Y, z_sz_Y, z_sw_Y, iI_nat, z_ix_t, z_at, Int.add_zero, Int.sub_zero, Int.zero_add, Int.mul_zero, ne_eq, Bool.false_eq_true, Bool.true_eq_false, reduceCtorEq, eq_self, and_true, true_and, and_false, false_and, and_self, not_true_eq_false, not_false_eq_true, decide_true, decide_false, ↓reduceIte, Int.reduceEq, Int.reduceNe, Int.reduceLT, Int.reduceLE, Int.reduceAdd, Int.reduceSub, Int.reduceMul, Int.reduceNeg, Nat.reduceAdd, Nat.reduceEqDiff, Nat.reduceBEq, ↓z_x_eq, z_g_t, z_bI_s, z_bL_s, z_bR_s, z_bV_s, Int.cast_ofNat_Int, beq_self_eq_true, Bool.and_true, Bool.true_and, Bool.and_self, Bool.or_true, Bool.true_or, Bool.false_and, Bool.and_false, Bool.false_or, Bool.or_false, Bool.not_false, Bool.not_true, if_true, if_false, ite_true, ite_false, z_up_eq, z_up_app, z_ro_eq, z_tcI, z_up_up, z_up_cm, z_ur_41, z_r_19, z_n0, z_n1, z_n2, z_n3, z_kd_ut, z_rt_ut, g0, g1, g2, g3]
  rw [e_H_copyFrom_139]
  simp -implicitDefEqProofs (disch := first | assumption | omega | rfl | (simp only [z_up_eq, z_up_app, ↓reduceIte, Nat.reduceEqDiff]; omega)) only [z_lit0, z_lit1, z_lit2, z_litl, iI_add, iI_sub, iI_mul, iI_neg, iI_and, iI_or, iI_xor, iI_shl, iI_shr, iI_ushr, iI_div, iI_b, iI_c, iI_i2l, lI_l2i, lI_add, lI_sub, lI_mul, lI_neg, lI_div, lI_or, lI_and, lI_shl, lI_shr, nI_iI, lg_lt0, lg_gt0, lg_eq0, i_ne0', l_ne0', iI_lt, iI_le, iI_eq, lI_lt, lI_le, lI_eq, zb_0, zb_fit, zb_fit0, zb_fit1, i_one_zero, i_w_in, z_tb0, z_tb1, z_tb2, z_tb3, z_tb4, z_tb5, z_tb6, z_tb7, z_tb8, z_tbl, z_tu0, z_tu1, z_tu2, z_i_62, z_i_63, z_i_86, z_i_88, z_l_Y, z_ui_62, z_ui_63, z_ui_86, z_ui_88, z_ul_Y, z_sz_Y, z_sw_Y, iI_nat, z_ix_t, z_at, Int.add_zero, Int.sub_zero, Int.zero_add, Int.mul_zero, ne_eq, Bool.false_eq_true, Bool.true_eq_false, reduceCtorEq, eq_self, and_true, true_and, and_false, false_and, and_self, not_true_eq_false, not_false_eq_true, decide_true, decide_false, ↓reduceIte, Int.reduceEq, Int.reduceNe, Int.reduceLT, Int.reduceLE, Int.reduceAdd, Int.reduceSub, Int.reduceMul, Int.reduceNeg, Nat.reduceAdd, Nat.reduceEqDiff, Nat.reduceBEq, ↓z_x_eq, z_g_t, z_bI_s, z_bL_s, z_bR_s, z_bV_s, Int.cast_ofNat_Int, beq_self_eq_true, Bool.and_true, Bool.true_and, Bool.and_self, Bool.or_true, Bool.true_or, Bool.false_and, Bool.and_false, Bool.false_or, Bool.or_false, Bool.not_false, Bool.not_true, if_true, if_false, ite_true, ite_false, z_up_eq, z_up_app, z_ro_eq, z_tcI, z_up_up, z_up_cm, z_ur_41, z_r_19, z_n0, z_n1, z_n2, z_n3, z_kd_ut, z_rt_ut, g0, g1, g2, g3]
  rw [e_H_copyFrom_139]
  simp -implicitDefEqProofs (disch := first | assumption | omega | rfl | (simp only [z_up_eq, z_up_app, ↓reduceIte, Nat.reduceEqDiff]; omega)) only [z_lit0, z_lit1, z_lit2, z_litl, iI_add, iI_sub, iI_mul, iI_neg, iI_and, iI_or, iI_xor, iI_shl, iI_shr, iI_ushr, iI_div, iI_b, iI_c, iI_i2l, lI_l2i, lI_add, lI_sub, lI_mul, lI_neg, lI_div, lI_or, lI_and, lI_shl, lI_shr, nI_iI, lg_lt0, lg_gt0, lg_eq0, i_ne0', l_ne0', iI_lt, iI_le, iI_eq, lI_lt, lI_le, lI_eq, zb_0, zb_fit, zb_fit0, zb_fit1, i_one_zero, i_w_in, z_tb0, z_tb1, z_tb2, z_tb3, z_tb4, z_tb5, z_tb6, z_tb7, z_tb8, z_tbl, z_tu0, z_tu1, z_tu2, z_i_62, z_i_63, z_i_86, z_i_88, z_l_Y, z_ui_62, z_ui_63, z_ui_86, z_ui_88, z_ul_Y, z_sz_Y, z_sw_Y, iI_nat, z_ix_t, z_at, Int.add_zero, Int.sub_zero, Int.zero_add, Int.mul_zero, ne_eq, Bool.false_eq_true, Bool.true_eq_false, reduceCtorEq, eq_self, and_true, true_and, and_false, false_and, and_self, not_true_eq_false, not_false_eq_true, decide_true, decide_false, ↓reduceIte, Int.reduceEq, Int.reduceNe, Int.reduceLT, Int.reduceLE, Int.reduceAdd, Int.reduceSub, Int.reduceMul, Int.reduceNeg, Nat.reduceAdd, Nat.reduceEqDiff, Nat.reduceBEq, ↓z_x_eq, z_g_t, z_bI_s, z_bL_s, z_bR_s, z_bV_s, Int.cast_ofNat_Int, beq_self_eq_true, Bool.and_true, Bool.true_and, Bool.and_self, Bool.or_true, Bool.true_or, Bool.false_and, Bool.and_false, Bool.false_or, Bool.or_false, Bool.not_false, Bool.not_true, if_true, if_false, ite_true, ite_false, z_up_eq, z_up_app, z_ro_eq, z_tcI, z_up_up, z_up_cm, z_ur_41, z_r_19, z_n0, z_n1, z_n2, z_n3, z_kd_ut, z_rt_ut, g0, g1, g2, g3]
  rw [e_H_copyFrom_139]
  simp -implicitDefEqProofs (disch := first | assumption | omega | rfl | (simp only [z_up_eq, z_up_app, ↓reduceIte, Nat.reduceEqDiff]; omega)) only [z_lit0, z_lit1, z_lit2, z_litl, iI_add, iI_sub, iI_mul, iI_neg, iI_and, iI_or, iI_xor, iI_shl, iI_shr, iI_ushr, iI_div, iI_b, iI_c, iI_i2l, lI_l2i, lI_add, lI_sub, lI_mul, lI_neg, lI_div, lI_or, lI_and, lI_shl, lI_shr, nI_iI, lg_lt0, lg_gt0, lg_eq0, i_ne0', l_ne0', iI_lt, iI_le, iI_eq, lI_lt, lI_le, lI_eq, zb_0, zb_fit, zb_fit0, zb_fit1, i_one_zero, i_w_in, z_tb0, z_tb1, z_tb2, z_tb3, z_tb4, z_tb5, z_tb6, z_tb7, z_tb8, z_tbl, z_tu0, z_tu1, z_tu2, z_i_62, z_i_63, z_i_86, z_i_88, z_l_Y, z_ui_62, z_ui_63, z_ui_86, z_ui_88, z_ul_Y, z_sz_Y, z_sw_Y, iI_nat, z_ix_t, z_at, Int.add_zero, Int.sub_zero, Int.zero_add, Int.mul_zero, ne_eq, Bool.false_eq_true, Bool.true_eq_false, reduceCtorEq, eq_self, and_true, true_and, and_false, false_and, and_self, not_true_eq_false, not_false_eq_true, decide_true, decide_false, ↓reduceIte, Int.reduceEq, Int.reduceNe, Int.reduceLT, Int.reduceLE, Int.reduceAdd, Int.reduceSub, Int.reduceMul, Int.reduceNeg, Nat.reduceAdd, Nat.reduceEqDiff, Nat.reduceBEq, ↓z_x_eq, z_g_t, z_bI_s, z_bL_s, z_bR_s, z_bV_s, Int.cast_ofNat_Int, beq_self_eq_true, Bool.and_true, Bool.true_and, Bool.and_self, Bool.or_true, Bool.true_or, Bool.false_and, Bool.and_false, Bool.false_or, Bool.or_false, Bool.not_false, Bool.not_true, if_true, if_false, ite_true, ite_false, z_up_eq, z_up_app, z_ro_eq, z_tcI, z_up_up, z_up_cm, z_ur_41, z_r_19, z_n0, z_n1, z_n2, z_n3, z_kd_ut, z_rt_ut, g0, g1, g2, g3]
  rw [e_H_copyFrom_139]
  simp -implicitDefEqProofs (disch := first | assumption | omega | rfl | (simp only [z_up_eq, z_up_app, ↓reduceIte, Nat.reduceEqDiff]; omega)) only [z_lit0, z_lit1, z_lit2, z_litl, iI_add, iI_sub, iI_mul, iI_neg, iI_and, iI_or, iI_xor, iI_shl, iI_shr, iI_ushr, iI_div, iI_b, iI_c, iI_i2l, lI_l2i, lI_add, lI_sub, lI_mul, lI_neg, lI_div, lI_or, lI_and, lI_shl, lI_shr, nI_iI, lg_lt0, lg_gt0, lg_eq0, i_ne0', l_ne0', iI_lt, iI_le, iI_eq, lI_lt, lI_le, lI_eq, zb_0, zb_fit, zb_fit0, zb_fit1, i_one_zero, i_w_in, z_tb0, z_tb1, z_tb2, z_tb3, z_tb4, z_tb5, z_tb6, z_tb7, z_tb8, z_tbl, z_tu0, z_tu1, z_tu2, z_i_62, z_i_63, z_i_86, z_i_88, z_l_Y, z_ui_62, z_ui_63, z_ui_86, z_ui_88, z_ul_Y, z_sz_Y, z_sw_Y, iI_nat, z_ix_t, z_at, Int.add_zero, Int.sub_zero, Int.zero_add, Int.mul_zero, ne_eq, Bool.false_eq_true, Bool.true_eq_false, reduceCtorEq, eq_self, and_true, true_and, and_false, false_and, and_self, not_true_eq_false, not_false_eq_true, decide_true, decide_false, ↓reduceIte, Int.reduceEq, Int.reduceNe, Int.reduceLT, Int.reduceLE, Int.reduceAdd, Int.reduceSub, Int.reduceMul, Int.reduceNeg, Nat.reduceAdd, Nat.reduceEqDiff, Nat.reduceBEq, ↓z_x_eq, z_g_t, z_bI_s, z_bL_s, z_bR_s, z_bV_s, Int.cast_ofNat_Int, beq_self_eq_true, Bool.and_true, Bool.true_and, Bool.and_self, Bool.or_true, Bool.true_or, Bool.false_and, Bool.and_false, Bool.false_or, Bool.or_false, Bool.not_false, Bool.not_true, if_true, if_false, ite_true, ite_false, z_up_eq, z_up_app, z_ro_eq, z_tcI, z_up_up, z_up_cm, z_ur_41, z_r_19, z_n0, z_n1, z_n2, z_n3, z_kd_ut, z_rt_ut, g0, g1, g2, g3]
def k_mI (G : ZG) : ZG := (z_up (z_up (z_up (z_up (z_up G 42 (z_ro (z_ro (z_ro (z_ro (G 42) 2 (G 20 2)) 3 (G 20 3)) 4 (G 20 4)) 5 (G 20 5))) 43 (z_cpr (G 21) (G 43) 0 0 10)) 44 (z_cpr (G 22) (G 44) 0 0 10)) 45 (z_cpr (G 23) (G 45) 0 0 20)) 46 (z_cpr (G 24) (G 46) 0 0 20))
theorem k_mI_ne (G : ZG) {r : Nat} (h : ¬ (42 ≤ r ∧ r ≤ 46)) : k_mI G r = G r := by
  unfold k_mI
  rw [z_up_ne _ _ (by omega), z_up_ne _ _ (by omega), z_up_ne _ _ (by omega), z_up_ne _ _ (by omega), z_up_ne _ _ (by omega)]
theorem k_mI_f (G : ZG) : k_mI G 42 2 = G 20 2 ∧ k_mI G 42 3 = G 20 3 ∧ k_mI G 42 4 = G 20 4 ∧ k_mI G 42 5 = G 20 5 ∧ (∀ k, 0 ≤ k → k < 10 → k_mI G 43 k = G 21 k) ∧ (∀ k, 0 ≤ k → k < 10 → k_mI G 44 k = G 22 k) ∧ (∀ k, 0 ≤ k → k < 20 → k_mI G 45 k = G 23 k) ∧ (∀ k, 0 ≤ k → k < 20 → k_mI G 46 k = G 24 k) :=
  ⟨by unfold k_mI; rw [z_up_ne _ _ (by omega), z_up_ne _ _ (by omega), z_up_ne _ _ (by omega), z_up_ne _ _ (by omega), z_up_eq, z_ro_ne _ _ (by omega), z_ro_ne _ _ (by omega), z_ro_ne _ _ (by omega), z_ro_eq],
   by unfold k_mI; rw [z_up_ne _ _ (by omega), z_up_ne _ _ (by omega), z_up_ne _ _ (by omega), z_up_ne _ _ (by omega), z_up_eq, z_ro_ne _ _ (by omega), z_ro_ne _ _ (by omega), z_ro_eq],
   by unfold k_mI; rw [z_up_ne _ _ (by omega), z_up_ne _ _ (by omega), z_up_ne _ _ (by omega), z_up_ne _ _ (by omega), z_up_eq, z_ro_ne _ _ (by omega), z_ro_eq],
   by unfold k_mI; rw [z_up_ne _ _ (by omega), z_up_ne _ _ (by omega), z_up_ne _ _ (by omega), z_up_ne _ _ (by omega), z_up_eq, z_ro_eq],
   fun k a b => by unfold k_mI; rw [z_up_ne _ _ (by omega), z_up_ne _ _ (by omega), z_up_ne _ _ (by omega), z_up_eq]; unfold z_cpr; rw [if_pos (by omega)]; exact f_eq (by omega),
   fun k a b => by unfold k_mI; rw [z_up_ne _ _ (by omega), z_up_ne _ _ (by omega), z_up_eq]; unfold z_cpr; rw [if_pos (by omega)]; exact f_eq (by omega),
   fun k a b => by unfold k_mI; rw [z_up_ne _ _ (by omega), z_up_eq]; unfold z_cpr; rw [if_pos (by omega)]; exact f_eq (by omega),
   fun k a b => by unfold k_mI; rw [z_up_eq]; unfold z_cpr; rw [if_pos (by omega)]; exact f_eq (by omega)⟩
theorem p_mI (d : Nat) (T : ZT) (G : ZG) (s : ZG × ZG) : z_call (d + 2) 317 [vr 42, vr 20] (z_Y T G s) = some (vi (iI 0), z_Y T (k_mI G) s) := by
  unfold k_mI
  rw [e_Mo_copyFrom]
  simp -implicitDefEqProofs (disch := first | assumption | omega | rfl | (simp only [z_up_eq, z_up_app, ↓reduceIte, Nat.reduceEqDiff]; omega)) only [z_lit0, z_lit1, z_lit2, z_litl, iI_add, iI_sub, iI_mul, iI_neg, iI_and, iI_or, iI_xor, iI_shl, iI_shr, iI_ushr, iI_div, iI_b, iI_c, iI_i2l, lI_l2i, lI_add, lI_sub, lI_mul, lI_neg, lI_div, lI_or, lI_and, lI_shl, lI_shr, nI_iI, lg_lt0, lg_gt0, lg_eq0, i_ne0', l_ne0', iI_lt, iI_le, iI_eq, lI_lt, lI_le, lI_eq, zb_0, zb_fit, zb_fit0, zb_fit1, i_one_zero, i_w_in, z_tb0, z_tb1, z_tb2, z_tb3, z_tb4, z_tb5, z_tb6, z_tb7, z_tb8, z_tbl, z_tu0, z_tu1, z_tu2, z_i_62, z_i_63, z_i_86, z_i_88, z_l_Y, z_ui_62, z_ui_63, z_ui_86, z_ui_88, z_ul_Y, z_sz_Y, z_sw_Y, iI_nat, z_ix_t, z_at, Int.add_zero, Int.sub_zero, Int.zero_add, Int.mul_zero, ne_eq, Bool.false_eq_true, Bool.true_eq_false, reduceCtorEq, eq_self, and_true, true_and, and_false, false_and, and_self, not_true_eq_false, not_false_eq_true, decide_true, decide_false, ↓reduceIte, Int.reduceEq, Int.reduceNe, Int.reduceLT, Int.reduceLE, Int.reduceAdd, Int.reduceSub, Int.reduceMul, Int.reduceNeg, Nat.reduceAdd, Nat.reduceEqDiff, Nat.reduceBEq, ↓z_x_eq, z_g_t, z_bI_s, z_bL_s, z_bR_s, z_bV_s, Int.cast_ofNat_Int, beq_self_eq_true, Bool.and_true, Bool.true_and, Bool.and_self, Bool.or_true, Bool.true_or, Bool.false_and, Bool.and_false, Bool.false_or, Bool.or_false, Bool.not_false, Bool.not_true, if_true, if_false, ite_true, ite_false, z_up_eq, z_up_app, z_ro_eq, z_tcI, z_up_up, z_up_cm, nI_iI]
def k_sI (G : ZG) : ZG := (z_up (z_up G 47 (z_ro (z_ro (G 47) 1 (G 25 1)) 2 (G 25 2))) 48 (z_cpr (G 26) (G 48) 0 0 720))
theorem k_sI_ne (G : ZG) {r : Nat} (h : ¬ (47 ≤ r ∧ r ≤ 48)) : k_sI G r = G r := by
  unfold k_sI
  rw [z_up_ne _ _ (by omega), z_up_ne _ _ (by omega)]
theorem k_sI_f (G : ZG) : k_sI G 47 1 = G 25 1 ∧ k_sI G 47 2 = G 25 2 ∧ (∀ k, 0 ≤ k → k < 720 → k_sI G 48 k = G 26 k) :=
  ⟨by unfold k_sI; rw [z_up_ne _ _ (by omega), z_up_eq, z_ro_ne _ _ (by omega), z_ro_eq],
   by unfold k_sI; rw [z_up_ne _ _ (by omega), z_up_eq, z_ro_eq],
   fun k a b => by unfold k_sI; rw [z_up_eq]; unfold z_cpr; rw [if_pos (by omega)]; exact f_eq (by omega)⟩
theorem p_sI (d : Nat) (T : ZT) (G : ZG) (s : ZG × ZG) : z_call (d + 2) 318 [vr 47, vr 25] (z_Y T G s) = some (vi (iI 0), z_Y T (k_sI G) s) := by
  unfold k_sI
  rw [e_St_copyFrom]
  simp -implicitDefEqProofs (disch := first | assumption | omega | rfl | (simp only [z_up_eq, z_up_app, ↓reduceIte, Nat.reduceEqDiff]; omega)) only [z_lit0, z_lit1, z_lit2, z_litl, iI_add, iI_sub, iI_mul, iI_neg, iI_and, iI_or, iI_xor, iI_shl, iI_shr, iI_ushr, iI_div, iI_b, iI_c, iI_i2l, lI_l2i, lI_add, lI_sub, lI_mul, lI_neg, lI_div, lI_or, lI_and, lI_shl, lI_shr, nI_iI, lg_lt0, lg_gt0, lg_eq0, i_ne0', l_ne0', iI_lt, iI_le, iI_eq, lI_lt, lI_le, lI_eq, zb_0, zb_fit, zb_fit0, zb_fit1, i_one_zero, i_w_in, z_tb0, z_tb1, z_tb2, z_tb3, z_tb4, z_tb5, z_tb6, z_tb7, z_tb8, z_tbl, z_tu0, z_tu1, z_tu2, z_i_62, z_i_63, z_i_86, z_i_88, z_l_Y, z_ui_62, z_ui_63, z_ui_86, z_ui_88, z_ul_Y, z_sz_Y, z_sw_Y, iI_nat, z_ix_t, z_at, Int.add_zero, Int.sub_zero, Int.zero_add, Int.mul_zero, ne_eq, Bool.false_eq_true, Bool.true_eq_false, reduceCtorEq, eq_self, and_true, true_and, and_false, false_and, and_self, not_true_eq_false, not_false_eq_true, decide_true, decide_false, ↓reduceIte, Int.reduceEq, Int.reduceNe, Int.reduceLT, Int.reduceLE, Int.reduceAdd, Int.reduceSub, Int.reduceMul, Int.reduceNeg, Nat.reduceAdd, Nat.reduceEqDiff, Nat.reduceBEq, ↓z_x_eq, z_g_t, z_bI_s, z_bL_s, z_bR_s, z_bV_s, Int.cast_ofNat_Int, beq_self_eq_true, Bool.and_true, Bool.true_and, Bool.and_self, Bool.or_true, Bool.true_or, Bool.false_and, Bool.and_false, Bool.false_or, Bool.or_false, Bool.not_false, Bool.not_true, if_true, if_false, ite_true, ite_false, z_up_eq, z_up_app, z_ro_eq, z_tcI, z_up_up, z_up_cm, nI_iI]
def k_oI (G : ZG) : ZG := (z_up (z_up (z_up (z_up (z_up (z_up G 49 (z_ro (z_ro (G 49) 0 (G 27 0)) 3 (G 27 3))) 50 (z_cpr (G 28) (G 50) 0 0 8)) 51 (z_cpr (G 29) (G 51) 0 0 8)) 52 (z_cpr (G 30) (G 52) 0 0 8)) 53 (z_cpr (G 31) (G 53) 0 0 8)) 54 (z_cpr (G 32) (G 54) 0 0 8))
theorem k_oI_ne (G : ZG) {r : Nat} (h : ¬ (49 ≤ r ∧ r ≤ 54)) : k_oI G r = G r := by
  unfold k_oI
  rw [z_up_ne _ _ (by omega), z_up_ne _ _ (by omega), z_up_ne _ _ (by omega), z_up_ne _ _ (by omega), z_up_ne _ _ (by omega), z_up_ne _ _ (by omega)]
theorem k_oI_f (G : ZG) : k_oI G 49 0 = G 27 0 ∧ k_oI G 49 3 = G 27 3 ∧ (∀ k, 0 ≤ k → k < 8 → k_oI G 50 k = G 28 k) ∧ (∀ k, 0 ≤ k → k < 8 → k_oI G 51 k = G 29 k) ∧ (∀ k, 0 ≤ k → k < 8 → k_oI G 52 k = G 30 k) ∧ (∀ k, 0 ≤ k → k < 8 → k_oI G 53 k = G 31 k) ∧ (∀ k, 0 ≤ k → k < 8 → k_oI G 54 k = G 32 k) :=
  ⟨by unfold k_oI; rw [z_up_ne _ _ (by omega), z_up_ne _ _ (by omega), z_up_ne _ _ (by omega), z_up_ne _ _ (by omega), z_up_ne _ _ (by omega), z_up_eq, z_ro_ne _ _ (by omega), z_ro_eq],
   by unfold k_oI; rw [z_up_ne _ _ (by omega), z_up_ne _ _ (by omega), z_up_ne _ _ (by omega), z_up_ne _ _ (by omega), z_up_ne _ _ (by omega), z_up_eq, z_ro_eq],
   fun k a b => by unfold k_oI; rw [z_up_ne _ _ (by omega), z_up_ne _ _ (by omega), z_up_ne _ _ (by omega), z_up_ne _ _ (by omega), z_up_eq]; unfold z_cpr; rw [if_pos (by omega)]; exact f_eq (by omega),
   fun k a b => by unfold k_oI; rw [z_up_ne _ _ (by omega), z_up_ne _ _ (by omega), z_up_ne _ _ (by omega), z_up_eq]; unfold z_cpr; rw [if_pos (by omega)]; exact f_eq (by omega),
   fun k a b => by unfold k_oI; rw [z_up_ne _ _ (by omega), z_up_ne _ _ (by omega), z_up_eq]; unfold z_cpr; rw [if_pos (by omega)]; exact f_eq (by omega),
   fun k a b => by unfold k_oI; rw [z_up_ne _ _ (by omega), z_up_eq]; unfold z_cpr; rw [if_pos (by omega)]; exact f_eq (by omega),
   fun k a b => by unfold k_oI; rw [z_up_eq]; unfold z_cpr; rw [if_pos (by omega)]; exact f_eq (by omega)⟩
theorem p_oI (d : Nat) (T : ZT) (G : ZG) (s : ZG × ZG) : z_call (d + 2) 319 [vr 49, vr 27] (z_Y T G s) = some (vi (iI 0), z_Y T (k_oI G) s) := by
  unfold k_oI
  rw [e_To_copyFrom]
  simp -implicitDefEqProofs (disch := first | assumption | omega | rfl | (simp only [z_up_eq, z_up_app, ↓reduceIte, Nat.reduceEqDiff]; omega)) only [z_lit0, z_lit1, z_lit2, z_litl, iI_add, iI_sub, iI_mul, iI_neg, iI_and, iI_or, iI_xor, iI_shl, iI_shr, iI_ushr, iI_div, iI_b, iI_c, iI_i2l, lI_l2i, lI_add, lI_sub, lI_mul, lI_neg, lI_div, lI_or, lI_and, lI_shl, lI_shr, nI_iI, lg_lt0, lg_gt0, lg_eq0, i_ne0', l_ne0', iI_lt, iI_le, iI_eq, lI_lt, lI_le, lI_eq, zb_0, zb_fit, zb_fit0, zb_fit1, i_one_zero, i_w_in, z_tb0, z_tb1, z_tb2, z_tb3, z_tb4, z_tb5, z_tb6, z_tb7, z_tb8, z_tbl, z_tu0, z_tu1, z_tu2, z_i_62, z_i_63, z_i_86, z_i_88, z_l_Y, z_ui_62, z_ui_63, z_ui_86, z_ui_88, z_ul_Y, z_sz_Y, z_sw_Y, iI_nat, z_ix_t, z_at, Int.add_zero, Int.sub_zero, Int.zero_add, Int.mul_zero, ne_eq, Bool.false_eq_true, Bool.true_eq_false, reduceCtorEq, eq_self, and_true, true_and, and_false, false_and, and_self, not_true_eq_false, not_false_eq_true, decide_true, decide_false, ↓reduceIte, Int.reduceEq, Int.reduceNe, Int.reduceLT, Int.reduceLE, Int.reduceAdd, Int.reduceSub, Int.reduceMul, Int.reduceNeg, Nat.reduceAdd, Nat.reduceEqDiff, Nat.reduceBEq, ↓z_x_eq, z_g_t, z_bI_s, z_bL_s, z_bR_s, z_bV_s, Int.cast_ofNat_Int, beq_self_eq_true, Bool.and_true, Bool.true_and, Bool.and_self, Bool.or_true, Bool.true_or, Bool.false_and, Bool.and_false, Bool.false_or, Bool.or_false, Bool.not_false, Bool.not_true, if_true, if_false, ite_true, ite_false, z_up_eq, z_up_app, z_ro_eq, z_tcI, z_up_up, z_up_cm, nI_iI]
theorem z_tcB : (∀ d T G s, z_call (d + 1) 1 [vr 34, vi (iI 0), vr 12, vi (iI 0), vi (iI 10)] (z_Y T G s) = some (vi (iI 0), z_Y T (z_up G 12 (z_cpr (G 34) (G 12) 0 0 10)) s)) ∧
  (∀ d T G s, z_call (d + 1) 1 [vr 35, vi (iI 0), vr 13, vi (iI 0), vi (iI 10)] (z_Y T G s) = some (vi (iI 0), z_Y T (z_up G 13 (z_cpr (G 35) (G 13) 0 0 10)) s)) ∧
  (∀ d T G s, z_call (d + 1) 1 [vr 36, vi (iI 0), vr 14, vi (iI 0), vi (iI 10)] (z_Y T G s) = some (vi (iI 0), z_Y T (z_up G 14 (z_cpr (G 36) (G 14) 0 0 10)) s)) ∧
  (∀ d T G s, z_call (d + 1) 1 [vr 37, vi (iI 0), vr 15, vi (iI 0), vi (iI 10)] (z_Y T G s) = some (vi (iI 0), z_Y T (z_up G 15 (z_cpr (G 37) (G 15) 0 0 10)) s)) ∧
  (∀ d T G s, z_call (d + 1) 1 [vr 38, vi (iI 0), vr 16, vi (iI 0), vi (iI 10)] (z_Y T G s) = some (vi (iI 0), z_Y T (z_up G 16 (z_cpr (G 38) (G 16) 0 0 10)) s)) ∧
  (∀ d T G s, z_call (d + 1) 1 [vr 39, vi (iI 0), vr 17, vi (iI 0), vi (iI 12)] (z_Y T G s) = some (vi (iI 0), z_Y T (z_up G 17 (z_cpr (G 39) (G 17) 0 0 12)) s)) ∧
  (∀ d T G s, z_call (d + 1) 1 [vr 40, vi (iI 0), vr 18, vi (iI 0), vi (iI 12)] (z_Y T G s) = some (vi (iI 0), z_Y T (z_up G 18 (z_cpr (G 40) (G 18) 0 0 12)) s)) ∧
  (∀ d T G s, z_call (d + 1) 1 [vr 43, vi (iI 0), vr 21, vi (iI 0), vi (iI 10)] (z_Y T G s) = some (vi (iI 0), z_Y T (z_up G 21 (z_cpr (G 43) (G 21) 0 0 10)) s)) ∧
  (∀ d T G s, z_call (d + 1) 1 [vr 44, vi (iI 0), vr 22, vi (iI 0), vi (iI 10)] (z_Y T G s) = some (vi (iI 0), z_Y T (z_up G 22 (z_cpr (G 44) (G 22) 0 0 10)) s)) ∧
  (∀ d T G s, z_call (d + 1) 1 [vr 45, vi (iI 0), vr 23, vi (iI 0), vi (iI 20)] (z_Y T G s) = some (vi (iI 0), z_Y T (z_up G 23 (z_cpr (G 45) (G 23) 0 0 20)) s)) ∧
  (∀ d T G s, z_call (d + 1) 1 [vr 46, vi (iI 0), vr 24, vi (iI 0), vi (iI 20)] (z_Y T G s) = some (vi (iI 0), z_Y T (z_up G 24 (z_cpr (G 46) (G 24) 0 0 20)) s)) ∧
  (∀ d T G s, z_call (d + 1) 1 [vr 48, vi (iI 0), vr 26, vi (iI 0), vi (iI 720)] (z_Y T G s) = some (vi (iI 0), z_Y T (z_up G 26 (z_cpr (G 48) (G 26) 0 0 720)) s)) ∧
  (∀ d T G s, z_call (d + 1) 1 [vr 50, vi (iI 0), vr 28, vi (iI 0), vi (iI 8)] (z_Y T G s) = some (vi (iI 0), z_Y T (z_up G 28 (z_cpr (G 50) (G 28) 0 0 8)) s)) ∧
  (∀ d T G s, z_call (d + 1) 1 [vr 51, vi (iI 0), vr 29, vi (iI 0), vi (iI 8)] (z_Y T G s) = some (vi (iI 0), z_Y T (z_up G 29 (z_cpr (G 51) (G 29) 0 0 8)) s)) ∧
  (∀ d T G s, z_call (d + 1) 1 [vr 52, vi (iI 0), vr 30, vi (iI 0), vi (iI 8)] (z_Y T G s) = some (vi (iI 0), z_Y T (z_up G 30 (z_cpr (G 52) (G 30) 0 0 8)) s)) ∧
  (∀ d T G s, z_call (d + 1) 1 [vr 53, vi (iI 0), vr 31, vi (iI 0), vi (iI 8)] (z_Y T G s) = some (vi (iI 0), z_Y T (z_up G 31 (z_cpr (G 53) (G 31) 0 0 8)) s)) ∧
  (∀ d T G s, z_call (d + 1) 1 [vr 54, vi (iI 0), vr 32, vi (iI 0), vi (iI 8)] (z_Y T G s) = some (vi (iI 0), z_Y T (z_up G 32 (z_cpr (G 54) (G 32) 0 0 8)) s)) := ⟨fun d T G s => p_copy d T G s (a := 34) (b := 12) (la := 10) (lb := 10) (i := 0) (j := 0) (n := 10) (fun _ _ => ⟨rfl, rfl⟩) (fun _ _ => ⟨rfl, rfl⟩) (by omega) (by omega) rfl rfl rfl (by omega),
  fun d T G s => p_copy d T G s (a := 35) (b := 13) (la := 10) (lb := 10) (i := 0) (j := 0) (n := 10) (fun _ _ => ⟨rfl, rfl⟩) (fun _ _ => ⟨rfl, rfl⟩) (by omega) (by omega) rfl rfl rfl (by omega),
  fun d T G s => p_copy d T G s (a := 36) (b := 14) (la := 10) (lb := 10) (i := 0) (j := 0) (n := 10) (fun _ _ => ⟨rfl, rfl⟩) (fun _ _ => ⟨rfl, rfl⟩) (by omega) (by omega) rfl rfl rfl (by omega),
  fun d T G s => p_copy d T G s (a := 37) (b := 15) (la := 10) (lb := 10) (i := 0) (j := 0) (n := 10) (fun _ _ => ⟨rfl, rfl⟩) (fun _ _ => ⟨rfl, rfl⟩) (by omega) (by omega) rfl rfl rfl (by omega),
  fun d T G s => p_copy d T G s (a := 38) (b := 16) (la := 10) (lb := 10) (i := 0) (j := 0) (n := 10) (fun _ _ => ⟨rfl, rfl⟩) (fun _ _ => ⟨rfl, rfl⟩) (by omega) (by omega) rfl rfl rfl (by omega),
  fun d T G s => p_copy d T G s (a := 39) (b := 17) (la := 12) (lb := 12) (i := 0) (j := 0) (n := 12) (fun _ _ => ⟨rfl, rfl⟩) (fun _ _ => ⟨rfl, rfl⟩) (by omega) (by omega) rfl rfl rfl (by omega),
  fun d T G s => p_copy d T G s (a := 40) (b := 18) (la := 12) (lb := 12) (i := 0) (j := 0) (n := 12) (fun _ _ => ⟨rfl, rfl⟩) (fun _ _ => ⟨rfl, rfl⟩) (by omega) (by omega) rfl rfl rfl (by omega),
  fun d T G s => p_copy d T G s (a := 43) (b := 21) (la := 10) (lb := 10) (i := 0) (j := 0) (n := 10) (fun _ _ => ⟨rfl, rfl⟩) (fun _ _ => ⟨rfl, rfl⟩) (by omega) (by omega) rfl rfl rfl (by omega),
  fun d T G s => p_copy d T G s (a := 44) (b := 22) (la := 10) (lb := 10) (i := 0) (j := 0) (n := 10) (fun _ _ => ⟨rfl, rfl⟩) (fun _ _ => ⟨rfl, rfl⟩) (by omega) (by omega) rfl rfl rfl (by omega),
  fun d T G s => p_copy d T G s (a := 45) (b := 23) (la := 20) (lb := 20) (i := 0) (j := 0) (n := 20) (fun _ _ => ⟨rfl, rfl⟩) (fun _ _ => ⟨rfl, rfl⟩) (by omega) (by omega) rfl rfl rfl (by omega),
  fun d T G s => p_copy d T G s (a := 46) (b := 24) (la := 20) (lb := 20) (i := 0) (j := 0) (n := 20) (fun _ _ => ⟨rfl, rfl⟩) (fun _ _ => ⟨rfl, rfl⟩) (by omega) (by omega) rfl rfl rfl (by omega),
  fun d T G s => p_copy d T G s (a := 48) (b := 26) (la := 720) (lb := 720) (i := 0) (j := 0) (n := 720) (fun _ _ => ⟨rfl, rfl⟩) (fun _ _ => ⟨rfl, rfl⟩) (by omega) (by omega) rfl rfl rfl (by omega),
  fun d T G s => p_copy d T G s (a := 50) (b := 28) (la := 8) (lb := 8) (i := 0) (j := 0) (n := 8) (fun _ _ => ⟨rfl, rfl⟩) (fun _ _ => ⟨rfl, rfl⟩) (by omega) (by omega) rfl rfl rfl (by omega),
  fun d T G s => p_copy d T G s (a := 51) (b := 29) (la := 8) (lb := 8) (i := 0) (j := 0) (n := 8) (fun _ _ => ⟨rfl, rfl⟩) (fun _ _ => ⟨rfl, rfl⟩) (by omega) (by omega) rfl rfl rfl (by omega),
  fun d T G s => p_copy d T G s (a := 52) (b := 30) (la := 8) (lb := 8) (i := 0) (j := 0) (n := 8) (fun _ _ => ⟨rfl, rfl⟩) (fun _ _ => ⟨rfl, rfl⟩) (by omega) (by omega) rfl rfl rfl (by omega),
  fun d T G s => p_copy d T G s (a := 53) (b := 31) (la := 8) (lb := 8) (i := 0) (j := 0) (n := 8) (fun _ _ => ⟨rfl, rfl⟩) (fun _ _ => ⟨rfl, rfl⟩) (by omega) (by omega) rfl rfl rfl (by omega),
  fun d T G s => p_copy d T G s (a := 54) (b := 32) (la := 8) (lb := 8) (i := 0) (j := 0) (n := 8) (fun _ _ => ⟨rfl, rfl⟩) (fun _ _ => ⟨rfl, rfl⟩) (by omega) (by omega) rfl rfl rfl (by omega)⟩
def k_hB (G : ZG) : ZG := (z_up (z_up (z_up (z_up (z_up (z_up (z_up (z_up G 11 (z_ro (z_ro (z_ro (z_ro (z_ro (G 11) 0 (G 33 0)) 3 (G 33 3)) 7 (G 33 7)) 10 (G 33 10)) 12 (G 33 12))) 12 (z_cpr (G 34) (G 12) 0 0 10)) 13 (z_cpr (G 35) (G 13) 0 0 10)) 14 (z_cpr (G 36) (G 14) 0 0 10)) 15 (z_cpr (G 37) (G 15) 0 0 10)) 16 (z_cpr (G 38) (G 16) 0 0 10)) 17 (z_cpr (G 39) (G 17) 0 0 12)) 18 (z_cpr (G 40) (G 18) 0 0 12))
theorem k_hB_ne (G : ZG) {r : Nat} (h : ¬ (11 ≤ r ∧ r ≤ 18)) : k_hB G r = G r := by
  unfold k_hB
  rw [z_up_ne _ _ (by omega), z_up_ne _ _ (by omega), z_up_ne _ _ (by omega), z_up_ne _ _ (by omega), z_up_ne _ _ (by omega), z_up_ne _ _ (by omega), z_up_ne _ _ (by omega), z_up_ne _ _ (by omega)]
theorem k_hB_f (G : ZG) : k_hB G 11 0 = G 33 0 ∧ k_hB G 11 3 = G 33 3 ∧ k_hB G 11 7 = G 33 7 ∧ k_hB G 11 10 = G 33 10 ∧ k_hB G 11 12 = G 33 12 ∧ (∀ k, 0 ≤ k → k < 10 → k_hB G 12 k = G 34 k) ∧ (∀ k, 0 ≤ k → k < 10 → k_hB G 13 k = G 35 k) ∧ (∀ k, 0 ≤ k → k < 10 → k_hB G 14 k = G 36 k) ∧ (∀ k, 0 ≤ k → k < 10 → k_hB G 15 k = G 37 k) ∧ (∀ k, 0 ≤ k → k < 10 → k_hB G 16 k = G 38 k) ∧ (∀ k, 0 ≤ k → k < 12 → k_hB G 17 k = G 39 k) ∧ (∀ k, 0 ≤ k → k < 12 → k_hB G 18 k = G 40 k) :=
  ⟨by unfold k_hB; rw [z_up_ne _ _ (by omega), z_up_ne _ _ (by omega), z_up_ne _ _ (by omega), z_up_ne _ _ (by omega), z_up_ne _ _ (by omega), z_up_ne _ _ (by omega), z_up_ne _ _ (by omega), z_up_eq, z_ro_ne _ _ (by omega), z_ro_ne _ _ (by omega), z_ro_ne _ _ (by omega), z_ro_ne _ _ (by omega), z_ro_eq],
   by unfold k_hB; rw [z_up_ne _ _ (by omega), z_up_ne _ _ (by omega), z_up_ne _ _ (by omega), z_up_ne _ _ (by omega), z_up_ne _ _ (by omega), z_up_ne _ _ (by omega), z_up_ne _ _ (by omega), z_up_eq, z_ro_ne _ _ (by omega), z_ro_ne _ _ (by omega), z_ro_ne _ _ (by omega), z_ro_eq],
   by unfold k_hB; rw [z_up_ne _ _ (by omega), z_up_ne _ _ (by omega), z_up_ne _ _ (by omega), z_up_ne _ _ (by omega), z_up_ne _ _ (by omega), z_up_ne _ _ (by omega), z_up_ne _ _ (by omega), z_up_eq, z_ro_ne _ _ (by omega), z_ro_ne _ _ (by omega), z_ro_eq],
   by unfold k_hB; rw [z_up_ne _ _ (by omega), z_up_ne _ _ (by omega), z_up_ne _ _ (by omega), z_up_ne _ _ (by omega), z_up_ne _ _ (by omega), z_up_ne _ _ (by omega), z_up_ne _ _ (by omega), z_up_eq, z_ro_ne _ _ (by omega), z_ro_eq],
   by unfold k_hB; rw [z_up_ne _ _ (by omega), z_up_ne _ _ (by omega), z_up_ne _ _ (by omega), z_up_ne _ _ (by omega), z_up_ne _ _ (by omega), z_up_ne _ _ (by omega), z_up_ne _ _ (by omega), z_up_eq, z_ro_eq],
   fun k a b => by unfold k_hB; rw [z_up_ne _ _ (by omega), z_up_ne _ _ (by omega), z_up_ne _ _ (by omega), z_up_ne _ _ (by omega), z_up_ne _ _ (by omega), z_up_ne _ _ (by omega), z_up_eq]; unfold z_cpr; rw [if_pos (by omega)]; exact f_eq (by omega),
   fun k a b => by unfold k_hB; rw [z_up_ne _ _ (by omega), z_up_ne _ _ (by omega), z_up_ne _ _ (by omega), z_up_ne _ _ (by omega), z_up_ne _ _ (by omega), z_up_eq]; unfold z_cpr; rw [if_pos (by omega)]; exact f_eq (by omega),
   fun k a b => by unfold k_hB; rw [z_up_ne _ _ (by omega), z_up_ne _ _ (by omega), z_up_ne _ _ (by omega), z_up_ne _ _ (by omega), z_up_eq]; unfold z_cpr; rw [if_pos (by omega)]; exact f_eq (by omega),
   fun k a b => by unfold k_hB; rw [z_up_ne _ _ (by omega), z_up_ne _ _ (by omega), z_up_ne _ _ (by omega), z_up_eq]; unfold z_cpr; rw [if_pos (by omega)]; exact f_eq (by omega),
   fun k a b => by unfold k_hB; rw [z_up_ne _ _ (by omega), z_up_ne _ _ (by omega), z_up_eq]; unfold z_cpr; rw [if_pos (by omega)]; exact f_eq (by omega),
   fun k a b => by unfold k_hB; rw [z_up_ne _ _ (by omega), z_up_eq]; unfold z_cpr; rw [if_pos (by omega)]; exact f_eq (by omega),
   fun k a b => by unfold k_hB; rw [z_up_eq]; unfold z_cpr; rw [if_pos (by omega)]; exact f_eq (by omega)⟩
theorem p_hB (d : Nat) (T : ZT) (G : ZG) (s : ZG × ZG) (hg : ∀ k G s, k < 4 → (z_rt T 41 k == 0 || z_kd (z_Y T G s) (z_rt T 41 k) == 9) = true) : z_call (d + 2) 316 [vr 11, vr 33] (z_Y T G s) = some (vi (iI 0), z_Y (z_t4 T 41 19) (k_hB G) s) := by
  have g0 := fun G s => hg 0 G s (by omega)
  have g1 := fun G s => hg 1 G s (by omega)
  have g2 := fun G s => hg 2 G s (by omega)
  have g3 := fun G s => hg 3 G s (by omega)
  unfold k_hB z_t4
  rw [e_H_copyFrom]
  simp -implicitDefEqProofs (disch := first | assumption | omega | rfl | (simp only [z_up_eq, z_up_app, ↓reduceIte, Nat.reduceEqDiff]; omega)) only [z_lit0, z_lit1, z_lit2, z_litl, iI_add, iI_sub, iI_mul, iI_neg, iI_and, iI_or, iI_xor, iI_shl, iI_shr, iI_ushr, iI_div, iI_b, iI_c, iI_i2l, lI_l2i, lI_add, lI_sub, lI_mul, lI_neg, lI_div, lI_or, lI_and, lI_shl, lI_shr, nI_iI, lg_lt0, lg_gt0, lg_eq0, i_ne0', l_ne0', iI_lt, iI_le, iI_eq, lI_lt, lI_le, lI_eq, zb_0, zb_fit, zb_fit0, zb_fit1, i_one_zero, i_w_in, z_tb0, z_tb1, z_tb2, z_tb3, z_tb4, z_tb5, z_tb6, z_tb7, z_tb8, z_tbl, z_tu0, z_tu1, z_tu2, z_i_62, z_i_63, z_i_86, z_i_88, z_l_Y, z_ui_62, z_ui_63, z_ui_86, z_ui_88, z_ul_Y, z_sz_Y, z_sw_Y, iI_nat, z_ix_t, z_at, Int.add_zero, Int.sub_zero, Int.zero_add, Int.mul_zero, ne_eq, Bool.false_eq_true, Bool.true_eq_false, reduceCtorEq, eq_self, and_true, true_and, and_false, false_and, and_self, not_true_eq_false, not_false_eq_true, decide_true, decide_false, ↓reduceIte, Int.reduceEq, Int.reduceNe, Int.reduceLT, Int.reduceLE, Int.reduceAdd, Int.reduceSub, Int.reduceMul, Int.reduceNeg, Nat.reduceAdd, Nat.reduceEqDiff, Nat.reduceBEq, ↓z_x_eq, z_g_t, z_bI_s, z_bL_s, z_bR_s, z_bV_s, Int.cast_ofNat_Int, beq_self_eq_true, Bool.and_true, Bool.true_and, Bool.and_self, Bool.or_true, Bool.true_or, Bool.false_and, Bool.and_false, Bool.false_or, Bool.or_false, Bool.not_false, Bool.not_true, if_true, if_false, ite_true, ite_false, z_up_eq, z_up_app, z_ro_eq, z_tcB, z_up_up, z_up_cm, z_ur_19, z_r_41, z_n0, z_n1, z_n2, z_n3, z_kd_ut, z_rt_ut, g0, g1, g2, g3]
  rw [e_H_copyFrom_139]
  simp -implicitDefEqProofs (disch := first | assumption | omega | rfl | (simp only [z_up_eq, z_up_app, ↓reduceIte, Nat.reduceEqDiff]; omega)) only [z_lit0, z_lit1, z_lit2, z_litl, iI_add, iI_sub, iI_mul, iI_neg, iI_and, iI_or, iI_xor, iI_shl, iI_shr, iI_ushr, iI_div, iI_b, iI_c, iI_i2l, lI_l2i, lI_add, lI_sub, lI_mul, lI_neg, lI_div, lI_or, lI_and, lI_shl, lI_shr, nI_iI, lg_lt0, lg_gt0, lg_eq0, i_ne0', l_ne0', iI_lt, iI_le, iI_eq, lI_lt, lI_le, lI_eq, zb_0, zb_fit, zb_fit0, zb_fit1, i_one_zero, i_w_in, z_tb0, z_tb1, z_tb2, z_tb3, z_tb4, z_tb5, z_tb6, z_tb7, z_tb8, z_tbl, z_tu0, z_tu1, z_tu2, z_i_62, z_i_63, z_i_86, z_i_88, z_l_Y, z_ui_62, z_ui_63, z_ui_86, z_ui_88, z_ul_Y, z_sz_Y, z_sw_Y, iI_nat, z_ix_t, z_at, Int.add_zero, Int.sub_zero, Int.zero_add, Int.mul_zero, ne_eq, Bool.false_eq_true, Bool.true_eq_false, reduceCtorEq, eq_self, and_true, true_and, and_false, false_and, and_self, not_true_eq_false, not_false_eq_true, decide_true, decide_false, ↓reduceIte, Int.reduceEq, Int.reduceNe, Int.reduceLT, Int.reduceLE, Int.reduceAdd, Int.reduceSub, Int.reduceMul, Int.reduceNeg, Nat.reduceAdd, Nat.reduceEqDiff, Nat.reduceBEq, ↓z_x_eq, z_g_t, z_bI_s, z_bL_s, z_bR_s, z_bV_s, Int.cast_ofNat_Int, beq_self_eq_true, Bool.and_true, Bool.true_and, Bool.and_self, Bool.or_true, Bool.true_or, Bool.false_and, Bool.and_false, Bool.false_or, Bool.or_false, Bool.not_false, Bool.not_true, if_true, if_false, ite_true, ite_false, z_up_eq, z_up_app, z_ro_eq, z_tcB, z_up_up, z_up_cm, z_ur_19, z_r_41, z_n0, z_n1, z_n2, z_n3, z_kd_ut, z_rt_ut, g0, g1, g2, g3]
  rw [e_H_copyFrom_139]
  simp -implicitDefEqProofs (disch := first | assumption | omega | rfl | (simp only [z_up_eq, z_up_app, ↓reduceIte, Nat.reduceEqDiff]; omega)) only [z_lit0, z_lit1, z_lit2, z_litl, iI_add, iI_sub, iI_mul, iI_neg, iI_and, iI_or, iI_xor, iI_shl, iI_shr, iI_ushr, iI_div, iI_b, iI_c, iI_i2l, lI_l2i, lI_add, lI_sub, lI_mul, lI_neg, lI_div, lI_or, lI_and, lI_shl, lI_shr, nI_iI, lg_lt0, lg_gt0, lg_eq0, i_ne0', l_ne0', iI_lt, iI_le, iI_eq, lI_lt, lI_le, lI_eq, zb_0, zb_fit, zb_fit0, zb_fit1, i_one_zero, i_w_in, z_tb0, z_tb1, z_tb2, z_tb3, z_tb4, z_tb5, z_tb6, z_tb7, z_tb8, z_tbl, z_tu0, z_tu1, z_tu2, z_i_62, z_i_63, z_i_86, z_i_88, z_l_Y, z_ui_62, z_ui_63, z_ui_86, z_ui_88, z_ul_Y, z_sz_Y, z_sw_Y, iI_nat, z_ix_t, z_at, Int.add_zero, Int.sub_zero, Int.zero_add, Int.mul_zero, ne_eq, Bool.false_eq_true, Bool.true_eq_false, reduceCtorEq, eq_self, and_true, true_and, and_false, false_and, and_self, not_true_eq_false, not_false_eq_true, decide_true, decide_false, ↓reduceIte, Int.reduceEq, Int.reduceNe, Int.reduceLT, Int.reduceLE, Int.reduceAdd, Int.reduceSub, Int.reduceMul, Int.reduceNeg, Nat.reduceAdd, Nat.reduceEqDiff, Nat.reduceBEq, ↓z_x_eq, z_g_t, z_bI_s, z_bL_s, z_bR_s, z_bV_s, Int.cast_ofNat_Int, beq_self_eq_true, Bool.and_true, Bool.true_and, Bool.and_self, Bool.or_true, Bool.true_or, Bool.false_and, Bool.and_false, Bool.false_or, Bool.or_false, Bool.not_false, Bool.not_true, if_true, if_false, ite_true, ite_false, z_up_eq, z_up_app, z_ro_eq, z_tcB, z_up_up, z_up_cm, z_ur_19, z_r_41, z_n0, z_n1, z_n2, z_n3, z_kd_ut, z_rt_ut, g0, g1, g2, g3]
  rw [e_H_copyFrom_139]
  simp -implicitDefEqProofs (disch := first | assumption | omega | rfl | (simp only [z_up_eq, z_up_app, ↓reduceIte, Nat.reduceEqDiff]; omega)) only [z_lit0, z_lit1, z_lit2, z_litl, iI_add, iI_sub, iI_mul, iI_neg, iI_and, iI_or, iI_xor, iI_shl, iI_shr, iI_ushr, iI_div, iI_b, iI_c, iI_i2l, lI_l2i, lI_add, lI_sub, lI_mul, lI_neg, lI_div, lI_or, lI_and, lI_shl, lI_shr, nI_iI, lg_lt0, lg_gt0, lg_eq0, i_ne0', l_ne0', iI_lt, iI_le, iI_eq, lI_lt, lI_le, lI_eq, zb_0, zb_fit, zb_fit0, zb_fit1, i_one_zero, i_w_in, z_tb0, z_tb1, z_tb2, z_tb3, z_tb4, z_tb5, z_tb6, z_tb7, z_tb8, z_tbl, z_tu0, z_tu1, z_tu2, z_i_62, z_i_63, z_i_86, z_i_88, z_l_Y, z_ui_62, z_ui_63, z_ui_86, z_ui_88, z_ul_Y, z_sz_Y, z_sw_Y, iI_nat, z_ix_t, z_at, Int.add_zero, Int.sub_zero, Int.zero_add, Int.mul_zero, ne_eq, Bool.false_eq_true, Bool.true_eq_false, reduceCtorEq, eq_self, and_true, true_and, and_false, false_and, and_self, not_true_eq_false, not_false_eq_true, decide_true, decide_false, ↓reduceIte, Int.reduceEq, Int.reduceNe, Int.reduceLT, Int.reduceLE, Int.reduceAdd, Int.reduceSub, Int.reduceMul, Int.reduceNeg, Nat.reduceAdd, Nat.reduceEqDiff, Nat.reduceBEq, ↓z_x_eq, z_g_t, z_bI_s, z_bL_s, z_bR_s, z_bV_s, Int.cast_ofNat_Int, beq_self_eq_true, Bool.and_true, Bool.true_and, Bool.and_self, Bool.or_true, Bool.true_or, Bool.false_and, Bool.and_false, Bool.false_or, Bool.or_false, Bool.not_false, Bool.not_true, if_true, if_false, ite_true, ite_false, z_up_eq, z_up_app, z_ro_eq, z_tcB, z_up_up, z_up_cm, z_ur_19, z_r_41, z_n0, z_n1, z_n2, z_n3, z_kd_ut, z_rt_ut, g0, g1, g2, g3]
  rw [e_H_copyFrom_139]
  simp -implicitDefEqProofs (disch := first | assumption | omega | rfl | (simp only [z_up_eq, z_up_app, ↓reduceIte, Nat.reduceEqDiff]; omega)) only [z_lit0, z_lit1, z_lit2, z_litl, iI_add, iI_sub, iI_mul, iI_neg, iI_and, iI_or, iI_xor, iI_shl, iI_shr, iI_ushr, iI_div, iI_b, iI_c, iI_i2l, lI_l2i, lI_add, lI_sub, lI_mul, lI_neg, lI_div, lI_or, lI_and, lI_shl, lI_shr, nI_iI, lg_lt0, lg_gt0, lg_eq0, i_ne0', l_ne0', iI_lt, iI_le, iI_eq, lI_lt, lI_le, lI_eq, zb_0, zb_fit, zb_fit0, zb_fit1, i_one_zero, i_w_in, z_tb0, z_tb1, z_tb2, z_tb3, z_tb4, z_tb5, z_tb6, z_tb7, z_tb8, z_tbl, z_tu0, z_tu1, z_tu2, z_i_62, z_i_63, z_i_86, z_i_88, z_l_Y, z_ui_62, z_ui_63, z_ui_86, z_ui_88, z_ul_Y, z_sz_Y, z_sw_Y, iI_nat, z_ix_t, z_at, Int.add_zero, Int.sub_zero, Int.zero_add, Int.mul_zero, ne_eq, Bool.false_eq_true, Bool.true_eq_false, reduceCtorEq, eq_self, and_true, true_and, and_false, false_and, and_self, not_true_eq_false, not_false_eq_true, decide_true, decide_false, ↓reduceIte, Int.reduceEq, Int.reduceNe, Int.reduceLT, Int.reduceLE, Int.reduceAdd, Int.reduceSub, Int.reduceMul, Int.reduceNeg, Nat.reduceAdd, Nat.reduceEqDiff, Nat.reduceBEq, ↓z_x_eq, z_g_t, z_bI_s, z_bL_s, z_bR_s, z_bV_s, Int.cast_ofNat_Int, beq_self_eq_true, Bool.and_true, Bool.true_and, Bool.and_self, Bool.or_true, Bool.true_or, Bool.false_and, Bool.and_false, Bool.false_or, Bool.or_false, Bool.not_false, Bool.not_true, if_true, if_false, ite_true, ite_false, z_up_eq, z_up_app, z_ro_eq, z_tcB, z_up_up, z_up_cm, z_ur_19, z_r_41, z_n0, z_n1, z_n2, z_n3, z_kd_ut, z_rt_ut, g0, g1, g2, g3]
  rw [e_H_copyFrom_139]
  simp -implicitDefEqProofs (disch := first | assumption | omega | rfl | (simp only [z_up_eq, z_up_app, ↓reduceIte, Nat.reduceEqDiff]; omega)) only [z_lit0, z_lit1, z_lit2, z_litl, iI_add, iI_sub, iI_mul, iI_neg, iI_and, iI_or, iI_xor, iI_shl, iI_shr, iI_ushr, iI_div, iI_b, iI_c, iI_i2l, lI_l2i, lI_add, lI_sub, lI_mul, lI_neg, lI_div, lI_or, lI_and, lI_shl, lI_shr, nI_iI, lg_lt0, lg_gt0, lg_eq0, i_ne0', l_ne0', iI_lt, iI_le, iI_eq, lI_lt, lI_le, lI_eq, zb_0, zb_fit, zb_fit0, zb_fit1, i_one_zero, i_w_in, z_tb0, z_tb1, z_tb2, z_tb3, z_tb4, z_tb5, z_tb6, z_tb7, z_tb8, z_tbl, z_tu0, z_tu1, z_tu2, z_i_62, z_i_63, z_i_86, z_i_88, z_l_Y, z_ui_62, z_ui_63, z_ui_86, z_ui_88, z_ul_Y, z_sz_Y, z_sw_Y, iI_nat, z_ix_t, z_at, Int.add_zero, Int.sub_zero, Int.zero_add, Int.mul_zero, ne_eq, Bool.false_eq_true, Bool.true_eq_false, reduceCtorEq, eq_self, and_true, true_and, and_false, false_and, and_self, not_true_eq_false, not_false_eq_true, decide_true, decide_false, ↓reduceIte, Int.reduceEq, Int.reduceNe, Int.reduceLT, Int.reduceLE, Int.reduceAdd, Int.reduceSub, Int.reduceMul, Int.reduceNeg, Nat.reduceAdd, Nat.reduceEqDiff, Nat.reduceBEq, ↓z_x_eq, z_g_t, z_bI_s, z_bL_s, z_bR_s, z_bV_s, Int.cast_ofNat_Int, beq_self_eq_true, Bool.and_true, Bool.true_and, Bool.and_self, Bool.or_true, Bool.true_or, Bool.false_and, Bool.and_false, Bool.false_or, Bool.or_false, Bool.not_false, Bool.not_true, if_true, if_false, ite_true, ite_false, z_up_eq, z_up_app, z_ro_eq, z_tcB, z_up_up, z_up_cm, z_ur_19, z_r_41, z_n0, z_n1, z_n2, z_n3, z_kd_ut, z_rt_ut, g0, g1, g2, g3]
def k_mB (G : ZG) : ZG := (z_up (z_up (z_up (z_up (z_up G 20 (z_ro (z_ro (z_ro (z_ro (G 20) 2 (G 42 2)) 3 (G 42 3)) 4 (G 42 4)) 5 (G 42 5))) 21 (z_cpr (G 43) (G 21) 0 0 10)) 22 (z_cpr (G 44) (G 22) 0 0 10)) 23 (z_cpr (G 45) (G 23) 0 0 20)) 24 (z_cpr (G 46) (G 24) 0 0 20))
theorem k_mB_ne (G : ZG) {r : Nat} (h : ¬ (20 ≤ r ∧ r ≤ 24)) : k_mB G r = G r := by
  unfold k_mB
  rw [z_up_ne _ _ (by omega), z_up_ne _ _ (by omega), z_up_ne _ _ (by omega), z_up_ne _ _ (by omega), z_up_ne _ _ (by omega)]
theorem k_mB_f (G : ZG) : k_mB G 20 2 = G 42 2 ∧ k_mB G 20 3 = G 42 3 ∧ k_mB G 20 4 = G 42 4 ∧ k_mB G 20 5 = G 42 5 ∧ (∀ k, 0 ≤ k → k < 10 → k_mB G 21 k = G 43 k) ∧ (∀ k, 0 ≤ k → k < 10 → k_mB G 22 k = G 44 k) ∧ (∀ k, 0 ≤ k → k < 20 → k_mB G 23 k = G 45 k) ∧ (∀ k, 0 ≤ k → k < 20 → k_mB G 24 k = G 46 k) :=
  ⟨by unfold k_mB; rw [z_up_ne _ _ (by omega), z_up_ne _ _ (by omega), z_up_ne _ _ (by omega), z_up_ne _ _ (by omega), z_up_eq, z_ro_ne _ _ (by omega), z_ro_ne _ _ (by omega), z_ro_ne _ _ (by omega), z_ro_eq],
   by unfold k_mB; rw [z_up_ne _ _ (by omega), z_up_ne _ _ (by omega), z_up_ne _ _ (by omega), z_up_ne _ _ (by omega), z_up_eq, z_ro_ne _ _ (by omega), z_ro_ne _ _ (by omega), z_ro_eq],
   by unfold k_mB; rw [z_up_ne _ _ (by omega), z_up_ne _ _ (by omega), z_up_ne _ _ (by omega), z_up_ne _ _ (by omega), z_up_eq, z_ro_ne _ _ (by omega), z_ro_eq],
   by unfold k_mB; rw [z_up_ne _ _ (by omega), z_up_ne _ _ (by omega), z_up_ne _ _ (by omega), z_up_ne _ _ (by omega), z_up_eq, z_ro_eq],
   fun k a b => by unfold k_mB; rw [z_up_ne _ _ (by omega), z_up_ne _ _ (by omega), z_up_ne _ _ (by omega), z_up_eq]; unfold z_cpr; rw [if_pos (by omega)]; exact f_eq (by omega),
   fun k a b => by unfold k_mB; rw [z_up_ne _ _ (by omega), z_up_ne _ _ (by omega), z_up_eq]; unfold z_cpr; rw [if_pos (by omega)]; exact f_eq (by omega),
   fun k a b => by unfold k_mB; rw [z_up_ne _ _ (by omega), z_up_eq]; unfold z_cpr; rw [if_pos (by omega)]; exact f_eq (by omega),
   fun k a b => by unfold k_mB; rw [z_up_eq]; unfold z_cpr; rw [if_pos (by omega)]; exact f_eq (by omega)⟩
theorem p_mB (d : Nat) (T : ZT) (G : ZG) (s : ZG × ZG) : z_call (d + 2) 317 [vr 20, vr 42] (z_Y T G s) = some (vi (iI 0), z_Y T (k_mB G) s) := by
  unfold k_mB
  rw [e_Mo_copyFrom]
  simp -implicitDefEqProofs (disch := first | assumption | omega | rfl | (simp only [z_up_eq, z_up_app, ↓reduceIte, Nat.reduceEqDiff]; omega)) only [z_lit0, z_lit1, z_lit2, z_litl, iI_add, iI_sub, iI_mul, iI_neg, iI_and, iI_or, iI_xor, iI_shl, iI_shr, iI_ushr, iI_div, iI_b, iI_c, iI_i2l, lI_l2i, lI_add, lI_sub, lI_mul, lI_neg, lI_div, lI_or, lI_and, lI_shl, lI_shr, nI_iI, lg_lt0, lg_gt0, lg_eq0, i_ne0', l_ne0', iI_lt, iI_le, iI_eq, lI_lt, lI_le, lI_eq, zb_0, zb_fit, zb_fit0, zb_fit1, i_one_zero, i_w_in, z_tb0, z_tb1, z_tb2, z_tb3, z_tb4, z_tb5, z_tb6, z_tb7, z_tb8, z_tbl, z_tu0, z_tu1, z_tu2, z_i_62, z_i_63, z_i_86, z_i_88, z_l_Y, z_ui_62, z_ui_63, z_ui_86, z_ui_88, z_ul_Y, z_sz_Y, z_sw_Y, iI_nat, z_ix_t, z_at, Int.add_zero, Int.sub_zero, Int.zero_add, Int.mul_zero, ne_eq, Bool.false_eq_true, Bool.true_eq_false, reduceCtorEq, eq_self, and_true, true_and, and_false, false_and, and_self, not_true_eq_false, not_false_eq_true, decide_true, decide_false, ↓reduceIte, Int.reduceEq, Int.reduceNe, Int.reduceLT, Int.reduceLE, Int.reduceAdd, Int.reduceSub, Int.reduceMul, Int.reduceNeg, Nat.reduceAdd, Nat.reduceEqDiff, Nat.reduceBEq, ↓z_x_eq, z_g_t, z_bI_s, z_bL_s, z_bR_s, z_bV_s, Int.cast_ofNat_Int, beq_self_eq_true, Bool.and_true, Bool.true_and, Bool.and_self, Bool.or_true, Bool.true_or, Bool.false_and, Bool.and_false, Bool.false_or, Bool.or_false, Bool.not_false, Bool.not_true, if_true, if_false, ite_true, ite_false, z_up_eq, z_up_app, z_ro_eq, z_tcB, z_up_up, z_up_cm, nI_iI]
def k_sB (G : ZG) : ZG := (z_up (z_up G 25 (z_ro (z_ro (G 25) 1 (G 47 1)) 2 (G 47 2))) 26 (z_cpr (G 48) (G 26) 0 0 720))
theorem k_sB_ne (G : ZG) {r : Nat} (h : ¬ (25 ≤ r ∧ r ≤ 26)) : k_sB G r = G r := by
  unfold k_sB
  rw [z_up_ne _ _ (by omega), z_up_ne _ _ (by omega)]
theorem k_sB_f (G : ZG) : k_sB G 25 1 = G 47 1 ∧ k_sB G 25 2 = G 47 2 ∧ (∀ k, 0 ≤ k → k < 720 → k_sB G 26 k = G 48 k) :=
  ⟨by unfold k_sB; rw [z_up_ne _ _ (by omega), z_up_eq, z_ro_ne _ _ (by omega), z_ro_eq],
   by unfold k_sB; rw [z_up_ne _ _ (by omega), z_up_eq, z_ro_eq],
   fun k a b => by unfold k_sB; rw [z_up_eq]; unfold z_cpr; rw [if_pos (by omega)]; exact f_eq (by omega)⟩
theorem p_sB (d : Nat) (T : ZT) (G : ZG) (s : ZG × ZG) : z_call (d + 2) 318 [vr 25, vr 47] (z_Y T G s) = some (vi (iI 0), z_Y T (k_sB G) s) := by
  unfold k_sB
  rw [e_St_copyFrom]
  simp -implicitDefEqProofs (disch := first | assumption | omega | rfl | (simp only [z_up_eq, z_up_app, ↓reduceIte, Nat.reduceEqDiff]; omega)) only [z_lit0, z_lit1, z_lit2, z_litl, iI_add, iI_sub, iI_mul, iI_neg, iI_and, iI_or, iI_xor, iI_shl, iI_shr, iI_ushr, iI_div, iI_b, iI_c, iI_i2l, lI_l2i, lI_add, lI_sub, lI_mul, lI_neg, lI_div, lI_or, lI_and, lI_shl, lI_shr, nI_iI, lg_lt0, lg_gt0, lg_eq0, i_ne0', l_ne0', iI_lt, iI_le, iI_eq, lI_lt, lI_le, lI_eq, zb_0, zb_fit, zb_fit0, zb_fit1, i_one_zero, i_w_in, z_tb0, z_tb1, z_tb2, z_tb3, z_tb4, z_tb5, z_tb6, z_tb7, z_tb8, z_tbl, z_tu0, z_tu1, z_tu2, z_i_62, z_i_63, z_i_86, z_i_88, z_l_Y, z_ui_62, z_ui_63, z_ui_86, z_ui_88, z_ul_Y, z_sz_Y, z_sw_Y, iI_nat, z_ix_t, z_at, Int.add_zero, Int.sub_zero, Int.zero_add, Int.mul_zero, ne_eq, Bool.false_eq_true, Bool.true_eq_false, reduceCtorEq, eq_self, and_true, true_and, and_false, false_and, and_self, not_true_eq_false, not_false_eq_true, decide_true, decide_false, ↓reduceIte, Int.reduceEq, Int.reduceNe, Int.reduceLT, Int.reduceLE, Int.reduceAdd, Int.reduceSub, Int.reduceMul, Int.reduceNeg, Nat.reduceAdd, Nat.reduceEqDiff, Nat.reduceBEq, ↓z_x_eq, z_g_t, z_bI_s, z_bL_s, z_bR_s, z_bV_s, Int.cast_ofNat_Int, beq_self_eq_true, Bool.and_true, Bool.true_and, Bool.and_self, Bool.or_true, Bool.true_or, Bool.false_and, Bool.and_false, Bool.false_or, Bool.or_false, Bool.not_false, Bool.not_true, if_true, if_false, ite_true, ite_false, z_up_eq, z_up_app, z_ro_eq, z_tcB, z_up_up, z_up_cm, nI_iI]
def k_oB (G : ZG) : ZG := (z_up (z_up (z_up (z_up (z_up (z_up G 27 (z_ro (z_ro (G 27) 0 (G 49 0)) 3 (G 49 3))) 28 (z_cpr (G 50) (G 28) 0 0 8)) 29 (z_cpr (G 51) (G 29) 0 0 8)) 30 (z_cpr (G 52) (G 30) 0 0 8)) 31 (z_cpr (G 53) (G 31) 0 0 8)) 32 (z_cpr (G 54) (G 32) 0 0 8))
theorem k_oB_ne (G : ZG) {r : Nat} (h : ¬ (27 ≤ r ∧ r ≤ 32)) : k_oB G r = G r := by
  unfold k_oB
  rw [z_up_ne _ _ (by omega), z_up_ne _ _ (by omega), z_up_ne _ _ (by omega), z_up_ne _ _ (by omega), z_up_ne _ _ (by omega), z_up_ne _ _ (by omega)]
theorem k_oB_f (G : ZG) : k_oB G 27 0 = G 49 0 ∧ k_oB G 27 3 = G 49 3 ∧ (∀ k, 0 ≤ k → k < 8 → k_oB G 28 k = G 50 k) ∧ (∀ k, 0 ≤ k → k < 8 → k_oB G 29 k = G 51 k) ∧ (∀ k, 0 ≤ k → k < 8 → k_oB G 30 k = G 52 k) ∧ (∀ k, 0 ≤ k → k < 8 → k_oB G 31 k = G 53 k) ∧ (∀ k, 0 ≤ k → k < 8 → k_oB G 32 k = G 54 k) :=
  ⟨by unfold k_oB; rw [z_up_ne _ _ (by omega), z_up_ne _ _ (by omega), z_up_ne _ _ (by omega), z_up_ne _ _ (by omega), z_up_ne _ _ (by omega), z_up_eq, z_ro_ne _ _ (by omega), z_ro_eq],
   by unfold k_oB; rw [z_up_ne _ _ (by omega), z_up_ne _ _ (by omega), z_up_ne _ _ (by omega), z_up_ne _ _ (by omega), z_up_ne _ _ (by omega), z_up_eq, z_ro_eq],
   fun k a b => by unfold k_oB; rw [z_up_ne _ _ (by omega), z_up_ne _ _ (by omega), z_up_ne _ _ (by omega), z_up_ne _ _ (by omega), z_up_eq]; unfold z_cpr; rw [if_pos (by omega)]; exact f_eq (by omega),
   fun k a b => by unfold k_oB; rw [z_up_ne _ _ (by omega), z_up_ne _ _ (by omega), z_up_ne _ _ (by omega), z_up_eq]; unfold z_cpr; rw [if_pos (by omega)]; exact f_eq (by omega),
   fun k a b => by unfold k_oB; rw [z_up_ne _ _ (by omega), z_up_ne _ _ (by omega), z_up_eq]; unfold z_cpr; rw [if_pos (by omega)]; exact f_eq (by omega),
   fun k a b => by unfold k_oB; rw [z_up_ne _ _ (by omega), z_up_eq]; unfold z_cpr; rw [if_pos (by omega)]; exact f_eq (by omega),
   fun k a b => by unfold k_oB; rw [z_up_eq]; unfold z_cpr; rw [if_pos (by omega)]; exact f_eq (by omega)⟩
theorem p_oB (d : Nat) (T : ZT) (G : ZG) (s : ZG × ZG) : z_call (d + 2) 319 [vr 27, vr 49] (z_Y T G s) = some (vi (iI 0), z_Y T (k_oB G) s) := by
  unfold k_oB
  rw [e_To_copyFrom]
  simp -implicitDefEqProofs (disch := first | assumption | omega | rfl | (simp only [z_up_eq, z_up_app, ↓reduceIte, Nat.reduceEqDiff]; omega)) only [z_lit0, z_lit1, z_lit2, z_litl, iI_add, iI_sub, iI_mul, iI_neg, iI_and, iI_or, iI_xor, iI_shl, iI_shr, iI_ushr, iI_div, iI_b, iI_c, iI_i2l, lI_l2i, lI_add, lI_sub, lI_mul, lI_neg, lI_div, lI_or, lI_and, lI_shl, lI_shr, nI_iI, lg_lt0, lg_gt0, lg_eq0, i_ne0', l_ne0', iI_lt, iI_le, iI_eq, lI_lt, lI_le, lI_eq, zb_0, zb_fit, zb_fit0, zb_fit1, i_one_zero, i_w_in, z_tb0, z_tb1, z_tb2, z_tb3, z_tb4, z_tb5, z_tb6, z_tb7, z_tb8, z_tbl, z_tu0, z_tu1, z_tu2, z_i_62, z_i_63, z_i_86, z_i_88, z_l_Y, z_ui_62, z_ui_63, z_ui_86, z_ui_88, z_ul_Y, z_sz_Y, z_sw_Y, iI_nat, z_ix_t, z_at, Int.add_zero, Int.sub_zero, Int.zero_add, Int.mul_zero, ne_eq, Bool.false_eq_true, Bool.true_eq_false, reduceCtorEq, eq_self, and_true, true_and, and_false, false_and, and_self, not_true_eq_false, not_false_eq_true, decide_true, decide_false, ↓reduceIte, Int.reduceEq, Int.reduceNe, Int.reduceLT, Int.reduceLE, Int.reduceAdd, Int.reduceSub, Int.reduceMul, Int.reduceNeg, Nat.reduceAdd, Nat.reduceEqDiff, Nat.reduceBEq, ↓z_x_eq, z_g_t, z_bI_s, z_bL_s, z_bR_s, z_bV_s, Int.cast_ofNat_Int, beq_self_eq_true, Bool.and_true, Bool.true_and, Bool.and_self, Bool.or_true, Bool.true_or, Bool.false_and, Bool.and_false, Bool.false_or, Bool.or_false, Bool.not_false, Bool.not_true, if_true, if_false, ite_true, ite_false, z_up_eq, z_up_app, z_ro_eq, z_tcB, z_up_up, z_up_cm, nI_iI]
theorem p_mcp_81 (d : Nat) (T : ZT) (G : ZG) (s : ZG × ZG) : ∀ (n : Nat) (i : Int) (R : Int → Int), 0 ≤ i → i + n = 2136 → (∀ k, 0 ≤ k → k < i → R k = G 81 k) → ∃ R', z_w d_M_copy (z_call d) 2 [some (vr 81), some (vr 82), some (vi (iI i))] [] (z_Y T (z_up G 82 R) s) = some (vi (iI 0), z_Y T (z_up G 82 R') s) ∧ ∀ k, 0 ≤ k → k < 2136 → R' k = G 81 k
  | 0, i, R, h0, h, r => by
    have hf : (i < 2136) = False := eq_false (by omega)
    refine ⟨R, ?_, fun k a b => r k a (by omega)⟩
    rw [e_M_copy_2]
    simp -implicitDefEqProofs (disch := first | assumption | omega | rfl | (simp only [z_up_eq, z_up_app, ↓reduceIte, Nat.reduceEqDiff]; omega)) only [z_lit0, z_lit1, z_lit2, z_litl, iI_add, iI_sub, iI_mul, iI_neg, iI_and, iI_or, iI_xor, iI_shl, iI_shr, iI_ushr, iI_div, iI_b, iI_c, iI_i2l, lI_l2i, lI_add, lI_sub, lI_mul, lI_neg, lI_div, lI_or, lI_and, lI_shl, lI_shr, nI_iI, lg_lt0, lg_gt0, lg_eq0, i_ne0', l_ne0', iI_lt, iI_le, iI_eq, lI_lt, lI_le, lI_eq, zb_0, zb_fit, zb_fit0, zb_fit1, i_one_zero, i_w_in, z_tb0, z_tb1, z_tb2, z_tb3, z_tb4, z_tb5, z_tb6, z_tb7, z_tb8, z_tbl, z_tu0, z_tu1, z_tu2, z_i_62, z_i_63, z_i_86, z_i_88, z_l_Y, z_ui_62, z_ui_63, z_ui_86, z_ui_88, z_ul_Y, z_sz_Y, z_sw_Y, iI_nat, z_ix_t, z_at, Int.add_zero, Int.sub_zero, Int.zero_add, Int.mul_zero, ne_eq, Bool.false_eq_true, Bool.true_eq_false, reduceCtorEq, eq_self, and_true, true_and, and_false, false_and, and_self, not_true_eq_false, not_false_eq_true, decide_true, decide_false, ↓reduceIte, Int.reduceEq, Int.reduceNe, Int.reduceLT, Int.reduceLE, Int.reduceAdd, Int.reduceSub, Int.reduceMul, Int.reduceNeg, Nat.reduceAdd, Nat.reduceEqDiff, Nat.reduceBEq, ↓z_x_eq, z_g_t, z_bI_s, z_bL_s, z_bR_s, z_bV_s, Int.cast_ofNat_Int, beq_self_eq_true, Bool.and_true, Bool.true_and, Bool.and_self, Bool.or_true, Bool.true_or, Bool.false_and, Bool.and_false, Bool.false_or, Bool.or_false, Bool.not_false, Bool.not_true, if_true, if_false, ite_true, ite_false, z_up_eq, z_up_app, z_ro_eq, hf]
  | n + 1, i, R, h0, h, r => by
    have hf : (i < 2136) = True := eq_true (by omega)
    obtain ⟨R', e, k⟩ := p_mcp_81 d T G s n (i + 1) (z_ro R i (G 81 i)) (by omega) (by omega) (fun k a b => by
      by_cases c : k = i
      · rw [c, z_ro_eq]
      · rw [z_ro_ne _ _ c]; exact r k a (by omega))
    refine ⟨R', ?_, k⟩
    rw [e_M_copy_2]
    simp -implicitDefEqProofs (disch := first | assumption | omega | rfl | (simp only [z_up_eq, z_up_app, ↓reduceIte, Nat.reduceEqDiff]; omega)) only [z_lit0, z_lit1, z_lit2, z_litl, iI_add, iI_sub, iI_mul, iI_neg, iI_and, iI_or, iI_xor, iI_shl, iI_shr, iI_ushr, iI_div, iI_b, iI_c, iI_i2l, lI_l2i, lI_add, lI_sub, lI_mul, lI_neg, lI_div, lI_or, lI_and, lI_shl, lI_shr, nI_iI, lg_lt0, lg_gt0, lg_eq0, i_ne0', l_ne0', iI_lt, iI_le, iI_eq, lI_lt, lI_le, lI_eq, zb_0, zb_fit, zb_fit0, zb_fit1, i_one_zero, i_w_in, z_tb0, z_tb1, z_tb2, z_tb3, z_tb4, z_tb5, z_tb6, z_tb7, z_tb8, z_tbl, z_tu0, z_tu1, z_tu2, z_i_62, z_i_63, z_i_86, z_i_88, z_l_Y, z_ui_62, z_ui_63, z_ui_86, z_ui_88, z_ul_Y, z_sz_Y, z_sw_Y, iI_nat, z_ix_t, z_at, Int.add_zero, Int.sub_zero, Int.zero_add, Int.mul_zero, ne_eq, Bool.false_eq_true, Bool.true_eq_false, reduceCtorEq, eq_self, and_true, true_and, and_false, false_and, and_self, not_true_eq_false, not_false_eq_true, decide_true, decide_false, ↓reduceIte, Int.reduceEq, Int.reduceNe, Int.reduceLT, Int.reduceLE, Int.reduceAdd, Int.reduceSub, Int.reduceMul, Int.reduceNeg, Nat.reduceAdd, Nat.reduceEqDiff, Nat.reduceBEq, ↓z_x_eq, z_g_t, z_bI_s, z_bL_s, z_bR_s, z_bV_s, Int.cast_ofNat_Int, beq_self_eq_true, Bool.and_true, Bool.true_and, Bool.and_self, Bool.or_true, Bool.true_or, Bool.false_and, Bool.and_false, Bool.false_or, Bool.or_false, Bool.not_false, Bool.not_true, if_true, if_false, ite_true, ite_false, z_up_eq, z_up_app, z_ro_eq, hf, z_up_up, e]
theorem p_mcp_82 (d : Nat) (T : ZT) (G : ZG) (s : ZG × ZG) : ∀ (n : Nat) (i : Int) (R : Int → Int), 0 ≤ i → i + n = 2136 → (∀ k, 0 ≤ k → k < i → R k = G 82 k) → ∃ R', z_w d_M_copy (z_call d) 2 [some (vr 82), some (vr 81), some (vi (iI i))] [] (z_Y T (z_up G 81 R) s) = some (vi (iI 0), z_Y T (z_up G 81 R') s) ∧ ∀ k, 0 ≤ k → k < 2136 → R' k = G 82 k
  | 0, i, R, h0, h, r => by
    have hf : (i < 2136) = False := eq_false (by omega)
    refine ⟨R, ?_, fun k a b => r k a (by omega)⟩
    rw [e_M_copy_2]
    simp -implicitDefEqProofs (disch := first | assumption | omega | rfl | (simp only [z_up_eq, z_up_app, ↓reduceIte, Nat.reduceEqDiff]; omega)) only [z_lit0, z_lit1, z_lit2, z_litl, iI_add, iI_sub, iI_mul, iI_neg, iI_and, iI_or, iI_xor, iI_shl, iI_shr, iI_ushr, iI_div, iI_b, iI_c, iI_i2l, lI_l2i, lI_add, lI_sub, lI_mul, lI_neg, lI_div, lI_or, lI_and, lI_shl, lI_shr, nI_iI, lg_lt0, lg_gt0, lg_eq0, i_ne0', l_ne0', iI_lt, iI_le, iI_eq, lI_lt, lI_le, lI_eq, zb_0, zb_fit, zb_fit0, zb_fit1, i_one_zero, i_w_in, z_tb0, z_tb1, z_tb2, z_tb3, z_tb4, z_tb5, z_tb6, z_tb7, z_tb8, z_tbl, z_tu0, z_tu1, z_tu2, z_i_62, z_i_63, z_i_86, z_i_88, z_l_Y, z_ui_62, z_ui_63, z_ui_86, z_ui_88, z_ul_Y, z_sz_Y, z_sw_Y, iI_nat, z_ix_t, z_at, Int.add_zero, Int.sub_zero, Int.zero_add, Int.mul_zero, ne_eq, Bool.false_eq_true, Bool.true_eq_false, reduceCtorEq, eq_self, and_true, true_and, and_false, false_and, and_self, not_true_eq_false, not_false_eq_true, decide_true, decide_false, ↓reduceIte, Int.reduceEq, Int.reduceNe, Int.reduceLT, Int.reduceLE, Int.reduceAdd, Int.reduceSub, Int.reduceMul, Int.reduceNeg, Nat.reduceAdd, Nat.reduceEqDiff, Nat.reduceBEq, ↓z_x_eq, z_g_t, z_bI_s, z_bL_s, z_bR_s, z_bV_s, Int.cast_ofNat_Int, beq_self_eq_true, Bool.and_true, Bool.true_and, Bool.and_self, Bool.or_true, Bool.true_or, Bool.false_and, Bool.and_false, Bool.false_or, Bool.or_false, Bool.not_false, Bool.not_true, if_true, if_false, ite_true, ite_false, z_up_eq, z_up_app, z_ro_eq, hf]
  | n + 1, i, R, h0, h, r => by
    have hf : (i < 2136) = True := eq_true (by omega)
    obtain ⟨R', e, k⟩ := p_mcp_82 d T G s n (i + 1) (z_ro R i (G 82 i)) (by omega) (by omega) (fun k a b => by
      by_cases c : k = i
      · rw [c, z_ro_eq]
      · rw [z_ro_ne _ _ c]; exact r k a (by omega))
    refine ⟨R', ?_, k⟩
    rw [e_M_copy_2]
    simp -implicitDefEqProofs (disch := first | assumption | omega | rfl | (simp only [z_up_eq, z_up_app, ↓reduceIte, Nat.reduceEqDiff]; omega)) only [z_lit0, z_lit1, z_lit2, z_litl, iI_add, iI_sub, iI_mul, iI_neg, iI_and, iI_or, iI_xor, iI_shl, iI_shr, iI_ushr, iI_div, iI_b, iI_c, iI_i2l, lI_l2i, lI_add, lI_sub, lI_mul, lI_neg, lI_div, lI_or, lI_and, lI_shl, lI_shr, nI_iI, lg_lt0, lg_gt0, lg_eq0, i_ne0', l_ne0', iI_lt, iI_le, iI_eq, lI_lt, lI_le, lI_eq, zb_0, zb_fit, zb_fit0, zb_fit1, i_one_zero, i_w_in, z_tb0, z_tb1, z_tb2, z_tb3, z_tb4, z_tb5, z_tb6, z_tb7, z_tb8, z_tbl, z_tu0, z_tu1, z_tu2, z_i_62, z_i_63, z_i_86, z_i_88, z_l_Y, z_ui_62, z_ui_63, z_ui_86, z_ui_88, z_ul_Y, z_sz_Y, z_sw_Y, iI_nat, z_ix_t, z_at, Int.add_zero, Int.sub_zero, Int.zero_add, Int.mul_zero, ne_eq, Bool.false_eq_true, Bool.true_eq_false, reduceCtorEq, eq_self, and_true, true_and, and_false, false_and, and_self, not_true_eq_false, not_false_eq_true, decide_true, decide_false, ↓reduceIte, Int.reduceEq, Int.reduceNe, Int.reduceLT, Int.reduceLE, Int.reduceAdd, Int.reduceSub, Int.reduceMul, Int.reduceNeg, Nat.reduceAdd, Nat.reduceEqDiff, Nat.reduceBEq, ↓z_x_eq, z_g_t, z_bI_s, z_bL_s, z_bR_s, z_bV_s, Int.cast_ofNat_Int, beq_self_eq_true, Bool.and_true, Bool.true_and, Bool.and_self, Bool.or_true, Bool.true_or, Bool.false_and, Bool.and_false, Bool.false_or, Bool.or_false, Bool.not_false, Bool.not_true, if_true, if_false, ite_true, ite_false, z_up_eq, z_up_app, z_ro_eq, hf, z_up_up, e]
/-- the same where it counts -/
def c_cp (h h' : ZG) : Prop := (h' 0 0 = h 0 0 ∧ h' 0 3 = h 0 3 ∧ h' 0 7 = h 0 7 ∧ h' 0 10 = h 0 10 ∧ h' 0 12 = h 0 12) ∧
  (∀ k, 0 ≤ k → k < 10 → h' 1 k = h 1 k ∧ h' 2 k = h 2 k ∧ h' 3 k = h 3 k ∧ h' 4 k = h 4 k ∧ h' 5 k = h 5 k ∧ h' 10 k = h 10 k ∧ h' 11 k = h 11 k) ∧
  (∀ k, 0 ≤ k → k < 12 → h' 6 k = h 6 k ∧ h' 7 k = h 7 k) ∧ (h' 9 2 = h 9 2 ∧ h' 9 3 = h 9 3 ∧ h' 9 4 = h 9 4 ∧ h' 9 5 = h 9 5) ∧
  (∀ k, 0 ≤ k → k < 20 → h' 12 k = h 12 k ∧ h' 13 k = h 13 k) ∧ (h' 14 1 = h 14 1 ∧ h' 14 2 = h 14 2) ∧ (∀ k, 0 ≤ k → k < 720 → h' 15 k = h 15 k) ∧
  (h' 16 0 = h 16 0 ∧ h' 16 3 = h 16 3) ∧ (∀ k, 0 ≤ k → k < 8 → h' 17 k = h 17 k ∧ h' 18 k = h 18 k ∧ h' 19 k = h 19 k ∧ h' 20 k = h 20 k ∧ h' 21 k = h 21 k)
theorem c_sd_cp {h h' : ZG} {A A' : Int → Int} (hc : c_sd h A) (hA : ∀ k, 0 ≤ k → k < 2136 → A' k = A k) (hh : c_cp h h') : c_sd h' A' := by
  obtain ⟨hM, hI, ⟨h1, h2, h3, h4, h5, h6, h8, h9⟩, ⟨o1, o2, o3, o4⟩, ⟨t1, t2, t3, t4⟩, ⟨p1, p2, p3, p4⟩⟩ := hc
  obtain ⟨m0, m1, m2, m3, m4, m5, m6, m7, m8, m9, m10, m11, ms, mp, mn, mc, mb, me⟩ := hM
  obtain ⟨⟨a0, a3, a7, a10, a12⟩, b1, b2, ⟨c2, c3, c4, c5⟩, b3, ⟨d1, d2⟩, b4, ⟨e0, e3⟩, b5⟩ := hh
  have z0 := hA 0 (by omega) (by omega)
  have z1 := hA 1 (by omega) (by omega)
  have z2 := hA 2 (by omega) (by omega)
  have z3 := hA 3 (by omega) (by omega)
  have z4 := hA 4 (by omega) (by omega)
  have z5 := hA 5 (by omega) (by omega)
  have z6 := hA 6 (by omega) (by omega)
  have z7 := hA 7 (by omega) (by omega)
  have z8 := hA 8 (by omega) (by omega)
  have z9 := hA 9 (by omega) (by omega)
  have z10 := hA 10 (by omega) (by omega)
  have z11 := hA 11 (by omega) (by omega)
  refine ⟨?_, ?_, ?_, ?_, ?_, ?_⟩
  · unfold m_ok
    rw [z0, z1, z2, z3, z4, z5, z6, z7, z8, z9, z10, z11]
    refine ⟨m0, m1, m2, m3, m4, m5, m6, m7, m8, m9, m10, m11, fun k a b => ?_, fun k a b => ?_, fun k a b => ?_, fun k a b => ?_, fun k a b => ?_, fun k a b => ?_⟩
    · rw [hA _ (by omega) (by omega), hA _ (by omega) (by omega)]; exact ms k a b
    · rw [hA _ (by omega) (by omega), hA _ (by omega) (by omega), hA _ (by omega) (by omega), hA _ (by omega) (by omega), hA _ (by omega) (by omega)]; exact mp k a b
    · rw [hA _ (by omega) (by omega), hA _ (by omega) (by omega)]; exact mn k a b
    · rw [hA _ (by omega) (by omega), hA _ (by omega) (by omega)]; exact mc k a b
    · rw [hA _ (by omega) (by omega), hA _ (by omega) (by omega)]; exact mb k a b
    · rw [hA _ (by omega) (by omega), hA _ (by omega) (by omega), hA _ (by omega) (by omega)]; exact me k a b
  · intro p q a b a' b' f
    rw [z1] at b b'
    rw [hA _ (by omega) (by omega), hA _ (by omega) (by omega)] at f
    rw [hA _ (by omega) (by omega)]
    exact hI p q a b a' b' f
  · unfold c_hs
    rw [a0, a3, a7, a10, a12, z0, z1, z2, z5, z6]
    refine ⟨h1, h2, h3, h4, h5, fun k a b => ?_, fun k a b => ?_, fun k a b => ?_⟩
    · have q := b1 k a (by omega)
      rw [q.1, q.2.1, hA _ (by omega) (by omega), hA _ (by omega) (by omega)]; exact h6 k a b
    · have q := b1 k a (by omega)
      rw [q.2.2.1, q.2.2.2.1, q.2.2.2.2.1, hA _ (by omega) (by omega), hA _ (by omega) (by omega), hA _ (by omega) (by omega)]; exact h8 k a b
    · have q := b2 k a (by omega)
      rw [q.1, q.2, hA _ (by omega) (by omega), hA _ (by omega) (by omega)]; exact h9 k a b
  · unfold c_mo
    rw [c2, c3, c4, c5, z1, z3, z4, z8, z11]
    refine ⟨o1, fun k a b => ?_, fun k a b => ?_, fun k a b => ?_⟩
    · have q := b1 k a (by omega)
      rw [q.2.2.2.2.2.1, q.2.2.2.2.2.2, hA _ (by omega) (by omega), hA _ (by omega) (by omega)]; exact o2 k a b
    · have q := b1 k (by omega) (by omega)
      rw [q.2.2.2.2.2.1, q.2.2.2.2.2.2]; exact o3 k a b
    · have q := b3 k a (by omega)
      rw [q.1, q.2, hA _ (by omega) (by omega), hA _ (by omega) (by omega)]; exact o4 k a b
  · unfold c_to
    rw [e0, e3, z9, z10]
    refine ⟨t1, fun k a b => ?_, t3, fun k a b => ?_⟩
    · have q := b5 k a (by omega)
      rw [q.1, q.2.1, hA _ (by omega) (by omega), hA _ (by omega) (by omega)]; exact t2 k a b
    · have q := b5 k a (by omega)
      rw [q.2.2.1, q.2.2.2.1, q.2.2.2.2, hA _ (by omega) (by omega), hA _ (by omega) (by omega), hA _ (by omega) (by omega)]; exact t4 k a b
  · unfold c_sp
    rw [d1, d2, z7]
    refine ⟨p1, p2, fun j a b => ?_, fun i j a b c => ?_⟩
    · exact st_tr (p3 j a b) (fun k a b => b4 _ (by omega) (by omega)) (fun k a b => hA _ (by omega) (by omega)) (by omega) (by omega) (by omega) (by omega) (by omega) (fun k a b => hA _ (by omega) (by omega))
    · rw [hA _ (by omega) (by omega), hA _ (by omega) (by omega)]; exact p4 i j a b c
theorem t_law_T {T T' : ZT} {G : ZG} {t q : Int} {r : Nat} (hk : ∀ r, 98 ≤ r → r < T.2.2.1 → z_kt T' r = z_kt T r) (hr : r < T.2.2.1) (h : t_law T G t q r) : t_law T' G t q r := by
  rcases h with h | ⟨h1, h2, h3, h4⟩
  · exact Or.inl h
  · exact Or.inr ⟨h1, h2, by rw [hk r h1 hr]; exact h3, h4⟩
theorem t_txt_T {T T' : ZT} {G : ZG} {t : Int} {r : Nat} (hk : ∀ r, 98 ≤ r → r < T.2.2.1 → z_kt T' r = z_kt T r) (hr : ∀ r j, 98 ≤ r → r < T.2.2.1 → z_rt T' r j = z_rt T r j) (hl : t_lt T r) (h : t_txt T G t r) : t_txt T' G t r := by
  obtain ⟨h1, h2, h3, h4, h5, h6, h7, h8, h9⟩ := h
  obtain ⟨l1, l2, l3, l4, l5⟩ := hl
  unfold t_txt
  rw [hr r 0 h1 l1, hr r 1 h1 l1, hr r 2 h1 l1, hr r 3 h1 l1, hk r h1 l1, hk _ h7 l5]
  exact ⟨h1, h2, t_law_T hk l2 h3, t_law_T hk l3 h4, t_law_T hk l4 h5, h6, h7, h8, h9⟩
theorem t_lt_T {T T' : ZT} {r : Nat} (hr : ∀ j, z_rt T' r j = z_rt T r j) (hs : T.2.2.1 ≤ T'.2.2.1) (h : t_lt T r) : t_lt T' r := by
  obtain ⟨l1, l2, l3, l4, l5⟩ := h
  unfold t_lt
  rw [hr, hr, hr, hr]
  exact ⟨by omega, by omega, by omega, by omega, by omega⟩
def k_aI (G : ZG) : ZG := k_oI (k_sI (k_mI (k_hI G)))
theorem k_aI_ne (G : ZG) {r : Nat} (h : ¬ (33 ≤ r ∧ r ≤ 54)) : k_aI G r = G r := by
  unfold k_aI
  rw [k_oI_ne _ (by omega), k_sI_ne _ (by omega), k_mI_ne _ (by omega), k_hI_ne _ (by omega)]
theorem k_aI_cp (G : ZG) : c_cp (fun r => G (11 + r)) (fun r => k_aI G (33 + r)) := by
  have H := k_hI_f G
  have M := k_mI_f (k_hI G)
  have S := k_sI_f (k_mI (k_hI G))
  have O := k_oI_f (k_sI (k_mI (k_hI G)))
  rw [k_hI_ne G (r := 20) (by omega), k_hI_ne G (r := 21) (by omega), k_hI_ne G (r := 22) (by omega), k_hI_ne G (r := 23) (by omega), k_hI_ne G (r := 24) (by omega)] at M
  rw [k_mI_ne (k_hI G) (r := 25) (by omega), k_hI_ne G (r := 25) (by omega), k_mI_ne (k_hI G) (r := 26) (by omega), k_hI_ne G (r := 26) (by omega)] at S
  rw [k_sI_ne (k_mI (k_hI G)) (r := 27) (by omega), k_mI_ne (k_hI G) (r := 27) (by omega), k_hI_ne G (r := 27) (by omega), k_sI_ne (k_mI (k_hI G)) (r := 28) (by omega), k_mI_ne (k_hI G) (r := 28) (by omega), k_hI_ne G (r := 28) (by omega), k_sI_ne (k_mI (k_hI G)) (r := 29) (by omega), k_mI_ne (k_hI G) (r := 29) (by omega), k_hI_ne G (r := 29) (by omega), k_sI_ne (k_mI (k_hI G)) (r := 30) (by omega), k_mI_ne (k_hI G) (r := 30) (by omega), k_hI_ne G (r := 30) (by omega), k_sI_ne (k_mI (k_hI G)) (r := 31) (by omega), k_mI_ne (k_hI G) (r := 31) (by omega), k_hI_ne G (r := 31) (by omega), k_sI_ne (k_mI (k_hI G)) (r := 32) (by omega), k_mI_ne (k_hI G) (r := 32) (by omega), k_hI_ne G (r := 32) (by omega)] at O
  have eh0 : k_aI G 33 = k_hI G 33 := by unfold k_aI; rw [k_oI_ne _ (by omega), k_sI_ne _ (by omega), k_mI_ne _ (by omega)]
  have eh1 : k_aI G 34 = k_hI G 34 := by unfold k_aI; rw [k_oI_ne _ (by omega), k_sI_ne _ (by omega), k_mI_ne _ (by omega)]
  have eh2 : k_aI G 35 = k_hI G 35 := by unfold k_aI; rw [k_oI_ne _ (by omega), k_sI_ne _ (by omega), k_mI_ne _ (by omega)]
  have eh3 : k_aI G 36 = k_hI G 36 := by unfold k_aI; rw [k_oI_ne _ (by omega), k_sI_ne _ (by omega), k_mI_ne _ (by omega)]
  have eh4 : k_aI G 37 = k_hI G 37 := by unfold k_aI; rw [k_oI_ne _ (by omega), k_sI_ne _ (by omega), k_mI_ne _ (by omega)]
  have eh5 : k_aI G 38 = k_hI G 38 := by unfold k_aI; rw [k_oI_ne _ (by omega), k_sI_ne _ (by omega), k_mI_ne _ (by omega)]
  have eh6 : k_aI G 39 = k_hI G 39 := by unfold k_aI; rw [k_oI_ne _ (by omega), k_sI_ne _ (by omega), k_mI_ne _ (by omega)]
  have eh7 : k_aI G 40 = k_hI G 40 := by unfold k_aI; rw [k_oI_ne _ (by omega), k_sI_ne _ (by omega), k_mI_ne _ (by omega)]
  have eh9 : k_aI G 42 = k_mI (k_hI G) 42 := by unfold k_aI; rw [k_oI_ne _ (by omega), k_sI_ne _ (by omega)]
  have eh10 : k_aI G 43 = k_mI (k_hI G) 43 := by unfold k_aI; rw [k_oI_ne _ (by omega), k_sI_ne _ (by omega)]
  have eh11 : k_aI G 44 = k_mI (k_hI G) 44 := by unfold k_aI; rw [k_oI_ne _ (by omega), k_sI_ne _ (by omega)]
  have eh12 : k_aI G 45 = k_mI (k_hI G) 45 := by unfold k_aI; rw [k_oI_ne _ (by omega), k_sI_ne _ (by omega)]
  have eh13 : k_aI G 46 = k_mI (k_hI G) 46 := by unfold k_aI; rw [k_oI_ne _ (by omega), k_sI_ne _ (by omega)]
  have eh14 : k_aI G 47 = k_sI (k_mI (k_hI G)) 47 := by unfold k_aI; rw [k_oI_ne _ (by omega)]
  have eh15 : k_aI G 48 = k_sI (k_mI (k_hI G)) 48 := by unfold k_aI; rw [k_oI_ne _ (by omega)]
  have eh16 : k_aI G 49 = k_oI (k_sI (k_mI (k_hI G))) 49 := rfl
  have eh17 : k_aI G 50 = k_oI (k_sI (k_mI (k_hI G))) 50 := rfl
  have eh18 : k_aI G 51 = k_oI (k_sI (k_mI (k_hI G))) 51 := rfl
  have eh19 : k_aI G 52 = k_oI (k_sI (k_mI (k_hI G))) 52 := rfl
  have eh20 : k_aI G 53 = k_oI (k_sI (k_mI (k_hI G))) 53 := rfl
  have eh21 : k_aI G 54 = k_oI (k_sI (k_mI (k_hI G))) 54 := rfl
  obtain ⟨x1, x2, x3, x4, x5, x6, x7, x8, x9, x10, x11, x12⟩ := H
  obtain ⟨y1, y2, y3, y4, y5, y6, y7, y8⟩ := M
  obtain ⟨w1, w2, w3⟩ := S
  obtain ⟨v1, v2, v3, v4, v5, v6, v7⟩ := O
  unfold c_cp
  dsimp only
  simp only [Nat.reduceAdd]
  rw [eh0, eh1, eh2, eh3, eh4, eh5, eh6, eh7, eh9, eh10, eh11, eh12, eh13, eh14, eh15, eh16, eh17, eh18, eh19, eh20, eh21]
  exact ⟨⟨x1, x2, x3, x4, x5⟩, fun k a b => ⟨x6 k a b, x7 k a b, x8 k a b, x9 k a b, x10 k a b, y5 k a b, y6 k a b⟩, fun k a b => ⟨x11 k a b, x12 k a b⟩, ⟨y1, y2, y3, y4⟩, fun k a b => ⟨y7 k a b, y8 k a b⟩, ⟨w1, w2⟩, w3, ⟨v1, v2⟩, fun k a b => ⟨v3 k a b, v4 k a b, v5 k a b, v6 k a b, v7 k a b⟩⟩
def k_aB (G : ZG) : ZG := k_oB (k_sB (k_mB (k_hB G)))
theorem k_aB_ne (G : ZG) {r : Nat} (h : ¬ (11 ≤ r ∧ r ≤ 32)) : k_aB G r = G r := by
  unfold k_aB
  rw [k_oB_ne _ (by omega), k_sB_ne _ (by omega), k_mB_ne _ (by omega), k_hB_ne _ (by omega)]
theorem k_aB_cp (G : ZG) : c_cp (fun r => G (33 + r)) (fun r => k_aB G (11 + r)) := by
  have H := k_hB_f G
  have M := k_mB_f (k_hB G)
  have S := k_sB_f (k_mB (k_hB G))
  have O := k_oB_f (k_sB (k_mB (k_hB G)))
  rw [k_hB_ne G (r := 42) (by omega), k_hB_ne G (r := 43) (by omega), k_hB_ne G (r := 44) (by omega), k_hB_ne G (r := 45) (by omega), k_hB_ne G (r := 46) (by omega)] at M
  rw [k_mB_ne (k_hB G) (r := 47) (by omega), k_hB_ne G (r := 47) (by omega), k_mB_ne (k_hB G) (r := 48) (by omega), k_hB_ne G (r := 48) (by omega)] at S
  rw [k_sB_ne (k_mB (k_hB G)) (r := 49) (by omega), k_mB_ne (k_hB G) (r := 49) (by omega), k_hB_ne G (r := 49) (by omega), k_sB_ne (k_mB (k_hB G)) (r := 50) (by omega), k_mB_ne (k_hB G) (r := 50) (by omega), k_hB_ne G (r := 50) (by omega), k_sB_ne (k_mB (k_hB G)) (r := 51) (by omega), k_mB_ne (k_hB G) (r := 51) (by omega), k_hB_ne G (r := 51) (by omega), k_sB_ne (k_mB (k_hB G)) (r := 52) (by omega), k_mB_ne (k_hB G) (r := 52) (by omega), k_hB_ne G (r := 52) (by omega), k_sB_ne (k_mB (k_hB G)) (r := 53) (by omega), k_mB_ne (k_hB G) (r := 53) (by omega), k_hB_ne G (r := 53) (by omega), k_sB_ne (k_mB (k_hB G)) (r := 54) (by omega), k_mB_ne (k_hB G) (r := 54) (by omega), k_hB_ne G (r := 54) (by omega)] at O
  have eh0 : k_aB G 11 = k_hB G 11 := by unfold k_aB; rw [k_oB_ne _ (by omega), k_sB_ne _ (by omega), k_mB_ne _ (by omega)]
  have eh1 : k_aB G 12 = k_hB G 12 := by unfold k_aB; rw [k_oB_ne _ (by omega), k_sB_ne _ (by omega), k_mB_ne _ (by omega)]
  have eh2 : k_aB G 13 = k_hB G 13 := by unfold k_aB; rw [k_oB_ne _ (by omega), k_sB_ne _ (by omega), k_mB_ne _ (by omega)]
  have eh3 : k_aB G 14 = k_hB G 14 := by unfold k_aB; rw [k_oB_ne _ (by omega), k_sB_ne _ (by omega), k_mB_ne _ (by omega)]
  have eh4 : k_aB G 15 = k_hB G 15 := by unfold k_aB; rw [k_oB_ne _ (by omega), k_sB_ne _ (by omega), k_mB_ne _ (by omega)]
  have eh5 : k_aB G 16 = k_hB G 16 := by unfold k_aB; rw [k_oB_ne _ (by omega), k_sB_ne _ (by omega), k_mB_ne _ (by omega)]
  have eh6 : k_aB G 17 = k_hB G 17 := by unfold k_aB; rw [k_oB_ne _ (by omega), k_sB_ne _ (by omega), k_mB_ne _ (by omega)]
  have eh7 : k_aB G 18 = k_hB G 18 := by unfold k_aB; rw [k_oB_ne _ (by omega), k_sB_ne _ (by omega), k_mB_ne _ (by omega)]
  have eh9 : k_aB G 20 = k_mB (k_hB G) 20 := by unfold k_aB; rw [k_oB_ne _ (by omega), k_sB_ne _ (by omega)]
  have eh10 : k_aB G 21 = k_mB (k_hB G) 21 := by unfold k_aB; rw [k_oB_ne _ (by omega), k_sB_ne _ (by omega)]
  have eh11 : k_aB G 22 = k_mB (k_hB G) 22 := by unfold k_aB; rw [k_oB_ne _ (by omega), k_sB_ne _ (by omega)]
  have eh12 : k_aB G 23 = k_mB (k_hB G) 23 := by unfold k_aB; rw [k_oB_ne _ (by omega), k_sB_ne _ (by omega)]
  have eh13 : k_aB G 24 = k_mB (k_hB G) 24 := by unfold k_aB; rw [k_oB_ne _ (by omega), k_sB_ne _ (by omega)]
  have eh14 : k_aB G 25 = k_sB (k_mB (k_hB G)) 25 := by unfold k_aB; rw [k_oB_ne _ (by omega)]
  have eh15 : k_aB G 26 = k_sB (k_mB (k_hB G)) 26 := by unfold k_aB; rw [k_oB_ne _ (by omega)]
  have eh16 : k_aB G 27 = k_oB (k_sB (k_mB (k_hB G))) 27 := rfl
  have eh17 : k_aB G 28 = k_oB (k_sB (k_mB (k_hB G))) 28 := rfl
  have eh18 : k_aB G 29 = k_oB (k_sB (k_mB (k_hB G))) 29 := rfl
  have eh19 : k_aB G 30 = k_oB (k_sB (k_mB (k_hB G))) 30 := rfl
  have eh20 : k_aB G 31 = k_oB (k_sB (k_mB (k_hB G))) 31 := rfl
  have eh21 : k_aB G 32 = k_oB (k_sB (k_mB (k_hB G))) 32 := rfl
  obtain ⟨x1, x2, x3, x4, x5, x6, x7, x8, x9, x10, x11, x12⟩ := H
  obtain ⟨y1, y2, y3, y4, y5, y6, y7, y8⟩ := M
  obtain ⟨w1, w2, w3⟩ := S
  obtain ⟨v1, v2, v3, v4, v5, v6, v7⟩ := O
  unfold c_cp
  dsimp only
  simp only [Nat.reduceAdd]
  rw [eh0, eh1, eh2, eh3, eh4, eh5, eh6, eh7, eh9, eh10, eh11, eh12, eh13, eh14, eh15, eh16, eh17, eh18, eh19, eh20, eh21]
  exact ⟨⟨x1, x2, x3, x4, x5⟩, fun k a b => ⟨x6 k a b, x7 k a b, x8 k a b, x9 k a b, x10 k a b, y5 k a b, y6 k a b⟩, fun k a b => ⟨x11 k a b, x12 k a b⟩, ⟨y1, y2, y3, y4⟩, fun k a b => ⟨y7 k a b, y8 k a b⟩, ⟨w1, w2⟩, w3, ⟨v1, v2⟩, fun k a b => ⟨v3 k a b, v4 k a b, v5 k a b, v6 k a b, v7 k a b⟩⟩
theorem I_gate {S0 : ZG} {c : Int} {T : ZT} {G : ZG} (h : z_I S0 c T G) : (∀ k G s, k < 4 → (z_rt T 19 k == 0 || z_kd (z_Y T G s) (z_rt T 19 k) == 9) = true) ∧ (∀ k G s, k < 4 → (z_rt T 41 k == 0 || z_kd (z_Y T G s) (z_rt T 41 k) == 9) = true) := by
  obtain ⟨-, f1, f2, ⟨t1, t2, t3, t4⟩, f4, f5, f6, f7, f8, f9, f10, f11, f12, f13⟩ := h
  constructor
  · intro k G' s hk
    by_cases c : G 81 5 ≤ k
    · rw [f13.1 k hk c]; rfl
    · have := (t2 k (by omega) (by omega)).2.1
      rw [show ((k : Nat) : Int).toNat = k by omega] at this
      rw [z_kd_T, this]; simp
  · intro k G' s hk
    by_cases c : G 82 5 ≤ k
    · rw [f13.2 k hk c]; rfl
    · have := (t4 k (by omega) (by omega)).2.1
      rw [show ((k : Nat) : Int).toNat = k by omega] at this
      rw [z_kd_T, this]; simp
theorem t_image (d : Nat) {S0 : ZG} {c : Int} {T : ZT} {G : ZG} (h : z_I S0 c T G) (hc : c < 600) : z_pwr S0 c T G (fun σ => z_call (d + 3) 320 [vr 10] σ) (fun σ => z_call (d + 2) 321 [vr 80] σ) := by
  intro s
  have hg := (I_gate h).1
  have e1 := fun G s => p_hI d T G s hg
  have e2 := fun G s => p_mI d (z_t4 T 19 41) G s
  have e3 := fun G s => p_sI d (z_t4 T 19 41) G s
  have e4 := fun G s => p_oI d (z_t4 T 19 41) G s
  have e5 : k_oI (k_sI (k_mI (k_hI G))) 20 = G 20 := k_aI_ne G (by omega)
  have hf : z_call (d + 3) 320 [vr 10] (z_Y T G s) = some (vi (iI (G 20 3)), z_Y (z_t4 T 19 41) (k_aI G) s) := by
    rw [e_B_image]
    simp -implicitDefEqProofs (disch := first | assumption | omega | rfl | (simp only [z_up_eq, z_up_app, ↓reduceIte, Nat.reduceEqDiff]; omega)) only [z_lit0, z_lit1, z_lit2, z_litl, iI_add, iI_sub, iI_mul, iI_neg, iI_and, iI_or, iI_xor, iI_shl, iI_shr, iI_ushr, iI_div, iI_b, iI_c, iI_i2l, lI_l2i, lI_add, lI_sub, lI_mul, lI_neg, lI_div, lI_or, lI_and, lI_shl, lI_shr, nI_iI, lg_lt0, lg_gt0, lg_eq0, i_ne0', l_ne0', iI_lt, iI_le, iI_eq, lI_lt, lI_le, lI_eq, zb_0, zb_fit, zb_fit0, zb_fit1, i_one_zero, i_w_in, z_tb0, z_tb1, z_tb2, z_tb3, z_tb4, z_tb5, z_tb6, z_tb7, z_tb8, z_tbl, z_tu0, z_tu1, z_tu2, z_i_62, z_i_63, z_i_86, z_i_88, z_l_Y, z_ui_62, z_ui_63, z_ui_86, z_ui_88, z_ul_Y, z_sz_Y, z_sw_Y, iI_nat, z_ix_t, z_at, Int.add_zero, Int.sub_zero, Int.zero_add, Int.mul_zero, ne_eq, Bool.false_eq_true, Bool.true_eq_false, reduceCtorEq, eq_self, and_true, true_and, and_false, false_and, and_self, not_true_eq_false, not_false_eq_true, decide_true, decide_false, ↓reduceIte, Int.reduceEq, Int.reduceNe, Int.reduceLT, Int.reduceLE, Int.reduceAdd, Int.reduceSub, Int.reduceMul, Int.reduceNeg, Nat.reduceAdd, Nat.reduceEqDiff, Nat.reduceBEq, ↓z_x_eq, z_g_t, z_bI_s, z_bL_s, z_bR_s, z_bV_s, Int.cast_ofNat_Int, beq_self_eq_true, Bool.and_true, Bool.true_and, Bool.and_self, Bool.or_true, Bool.true_or, Bool.false_and, Bool.and_false, Bool.false_or, Bool.or_false, Bool.not_false, Bool.not_true, if_true, if_false, ite_true, ite_false, z_up_eq, z_up_app, z_ro_eq, e1, e2, e3, e4, e5]
    rfl
  dsimp only
  rw [hf]
  refine ok_ret ?_
  obtain ⟨R, em, hR⟩ := p_mcp_81 d (z_t4 T 19 41) (k_aI G) s 2136 0 (k_aI G 82) (by omega) (by omega) (fun k a b => by omega)
  rw [z_up_id] at em
  have e81 : k_aI G 81 = G 81 := k_aI_ne G (by omega)
  rw [e81] at hR
  rw [e_M_image, e_M_copy]
  simp -implicitDefEqProofs (disch := first | assumption | omega | rfl | (simp only [z_up_eq, z_up_app, ↓reduceIte, Nat.reduceEqDiff]; omega)) only [z_lit0, z_lit1, z_lit2, z_litl, iI_add, iI_sub, iI_mul, iI_neg, iI_and, iI_or, iI_xor, iI_shl, iI_shr, iI_ushr, iI_div, iI_b, iI_c, iI_i2l, lI_l2i, lI_add, lI_sub, lI_mul, lI_neg, lI_div, lI_or, lI_and, lI_shl, lI_shr, nI_iI, lg_lt0, lg_gt0, lg_eq0, i_ne0', l_ne0', iI_lt, iI_le, iI_eq, lI_lt, lI_le, lI_eq, zb_0, zb_fit, zb_fit0, zb_fit1, i_one_zero, i_w_in, z_tb0, z_tb1, z_tb2, z_tb3, z_tb4, z_tb5, z_tb6, z_tb7, z_tb8, z_tbl, z_tu0, z_tu1, z_tu2, z_i_62, z_i_63, z_i_86, z_i_88, z_l_Y, z_ui_62, z_ui_63, z_ui_86, z_ui_88, z_ul_Y, z_sz_Y, z_sw_Y, iI_nat, z_ix_t, z_at, Int.add_zero, Int.sub_zero, Int.zero_add, Int.mul_zero, ne_eq, Bool.false_eq_true, Bool.true_eq_false, reduceCtorEq, eq_self, and_true, true_and, and_false, false_and, and_self, not_true_eq_false, not_false_eq_true, decide_true, decide_false, ↓reduceIte, Int.reduceEq, Int.reduceNe, Int.reduceLT, Int.reduceLE, Int.reduceAdd, Int.reduceSub, Int.reduceMul, Int.reduceNeg, Nat.reduceAdd, Nat.reduceEqDiff, Nat.reduceBEq, ↓z_x_eq, z_g_t, z_bI_s, z_bL_s, z_bR_s, z_bV_s, Int.cast_ofNat_Int, beq_self_eq_true, Bool.and_true, Bool.true_and, Bool.and_self, Bool.or_true, Bool.true_or, Bool.false_and, Bool.and_false, Bool.false_or, Bool.or_false, Bool.not_false, Bool.not_true, if_true, if_false, ite_true, ite_false, z_up_eq, z_up_app, z_ro_eq, em, e81]
  refine ok_ret ⟨by rw [(dw_m h.1).2.1], z_t4 T 19 41, z_up (k_aI G) 82 R, s, rfl, ?_, rfl⟩
  obtain ⟨hn, f1, f2, ⟨t1, t2, t3, t4⟩, f4, f5, f6, f7, f8, f9, f10, f11, f12, f13⟩ := h
  have ne : ∀ r, r ≠ 82 → ¬ (33 ≤ r ∧ r ≤ 54) → z_up (k_aI G) 82 R r = G r := fun r a b => by rw [z_up_ne _ _ a, k_aI_ne G (by omega)]
  have m5 := hn.1.2.2.2.2.2.1
  have i5 : z_up (k_aI G) 82 R 82 5 = G 81 5 := by rw [z_up_eq]; exact hR 5 (by omega) (by omega)
  have n81 := ne 81 (by omega) (by omega)
  have n83 := ne 83 (by omega) (by omega)
  have n80 := ne 80 (by omega) (by omega)
  have hI : c_img (z_up (k_aI G) 82 R) := by
    unfold c_img
    rw [z_up_eq]
    refine c_sd_eq (fun r a => z_up_ne _ _ (by omega)) (c_sd_cp hn hR (k_aI_cp G))
  have tT : ∀ t, 0 ≤ t → t < G 81 5 → t_txt (z_t4 T 19 41) (z_up (k_aI G) 82 R) t (z_rt T 19 t.toNat) := fun t a b => t_txt_T (T := T) (fun r a b => rfl) (fun r j a b => z_t4_ne (by omega)) (f4 t a b) (t_txt_eq (fun r a => ne r (by omega) (by omega)) n83 (t2 t a b))
  have tL : ∀ t, 0 ≤ t → t < G 81 5 → t_lt (z_t4 T 19 41) (z_rt T 19 t.toNat) := fun t a b => t_lt_T (T := T) (fun j => z_t4_ne (by have := (t2 t a b).1; omega)) (Nat.le_refl _) (f4 t a b)
  refine ⟨c_now_eq (fun r a b => ne r (by omega) (by omega)) n81 hn, fun r q => (ne r (by omega) (by omega)).trans (f1 r q), hI, ⟨?_, ?_, ?_, ?_⟩, ?_, ?_, ?_, ?_, ?_, z_ask_up f9 (ne 61 (by omega) (by omega)) (ne 64 (by omega) (by omega)), ⟨f10.1, by have := f10.2; show (T.2.2.1 : Int) ≤ _; omega⟩, by show (T.2.2.2 : Int) ≤ _; omega, by omega, ?_⟩
  · rw [n83, n81]; exact t1
  · intro t a b
    rw [n81] at b
    rw [z_t4_ne (by omega)]; exact tT t a b
  · rw [i5, n81]; exact Int.le_refl _
  · intro t a b
    rw [i5] at b
    rw [z_t4_41 (by omega)]; exact tT t a b
  · intro t a b
    rw [n81] at b
    rw [z_t4_ne (by omega)]; exact tL t a b
  · intro t a b
    rw [i5] at b
    rw [z_t4_41 (by omega)]; exact tL t a b
  · rw [n80]; exact f6
  · unfold z_tape at *
    rw [n80, ne 10 (by omega) (by omega), ne 84 (by omega) (by omega), ne 55 (by omega) (by omega)]; exact f7
  · unfold z_flt at *
    rw [n80, ne 56 (by omega) (by omega)]; exact f8
  · constructor
    · intro k a b
      rw [n81] at b
      rw [z_t4_ne (by omega)]; exact f13.1 k a b
    · intro k a b
      rw [i5] at b
      rw [z_t4_41 a]; exact f13.1 k a b
theorem t_back (d : Nat) {S0 : ZG} {c : Int} {T : ZT} {G : ZG} (h : z_I S0 c T G) (hc : c < 600) : z_pwr S0 c T G (fun σ => z_call (d + 3) 322 [vr 10] σ) (fun σ => z_call (d + 2) 323 [vr 80] σ) := by
  intro s
  have hg := (I_gate h).2
  have e1 := fun G s => p_hB d T G s hg
  have e2 := fun G s => p_mB d (z_t4 T 41 19) G s
  have e3 := fun G s => p_sB d (z_t4 T 41 19) G s
  have e4 := fun G s => p_oB d (z_t4 T 41 19) G s
  have hf : z_call (d + 3) 322 [vr 10] (z_Y T G s) = some (vi (iI (k_aB G 20 3)), z_Y (z_t4 T 41 19) (k_aB G) s) := by
    rw [e_B_back]
    simp -implicitDefEqProofs (disch := first | assumption | omega | rfl | (simp only [z_up_eq, z_up_app, ↓reduceIte, Nat.reduceEqDiff]; omega)) only [z_lit0, z_lit1, z_lit2, z_litl, iI_add, iI_sub, iI_mul, iI_neg, iI_and, iI_or, iI_xor, iI_shl, iI_shr, iI_ushr, iI_div, iI_b, iI_c, iI_i2l, lI_l2i, lI_add, lI_sub, lI_mul, lI_neg, lI_div, lI_or, lI_and, lI_shl, lI_shr, nI_iI, lg_lt0, lg_gt0, lg_eq0, i_ne0', l_ne0', iI_lt, iI_le, iI_eq, lI_lt, lI_le, lI_eq, zb_0, zb_fit, zb_fit0, zb_fit1, i_one_zero, i_w_in, z_tb0, z_tb1, z_tb2, z_tb3, z_tb4, z_tb5, z_tb6, z_tb7, z_tb8, z_tbl, z_tu0, z_tu1, z_tu2, z_i_62, z_i_63, z_i_86, z_i_88, z_l_Y, z_ui_62, z_ui_63, z_ui_86, z_ui_88, z_ul_Y, z_sz_Y, z_sw_Y, iI_nat, z_ix_t, z_at, Int.add_zero, Int.sub_zero, Int.zero_add, Int.mul_zero, ne_eq, Bool.false_eq_true, Bool.true_eq_false, reduceCtorEq, eq_self, and_true, true_and, and_false, false_and, and_self, not_true_eq_false, not_false_eq_true, decide_true, decide_false, ↓reduceIte, Int.reduceEq, Int.reduceNe, Int.reduceLT, Int.reduceLE, Int.reduceAdd, Int.reduceSub, Int.reduceMul, Int.reduceNeg, Nat.reduceAdd, Nat.reduceEqDiff, Nat.reduceBEq, ↓z_x_eq, z_g_t, z_bI_s, z_bL_s, z_bR_s, z_bV_s, Int.cast_ofNat_Int, beq_self_eq_true, Bool.and_true, Bool.true_and, Bool.and_self, Bool.or_true, Bool.true_or, Bool.false_and, Bool.and_false, Bool.false_or, Bool.or_false, Bool.not_false, Bool.not_true, if_true, if_false, ite_true, ite_false, z_up_eq, z_up_app, z_ro_eq, e1, e2, e3, e4]
    rfl
  have b3 : k_aB G 20 3 = G 42 3 := (k_aB_cp G).2.2.2.1.2.1
  dsimp only
  rw [hf, b3]
  refine ok_ret ?_
  obtain ⟨R, em, hR⟩ := p_mcp_82 d (z_t4 T 41 19) (k_aB G) s 2136 0 (k_aB G 81) (by omega) (by omega) (fun k a b => by omega)
  rw [z_up_id] at em
  have e82 : k_aB G 82 = G 82 := k_aB_ne G (by omega)
  rw [e82] at hR
  have r3 := hR 3 (by omega) (by omega)
  rw [e_M_back, e_M_copy]
  simp -implicitDefEqProofs (disch := first | assumption | omega | rfl | (simp only [z_up_eq, z_up_app, ↓reduceIte, Nat.reduceEqDiff]; omega)) only [z_lit0, z_lit1, z_lit2, z_litl, iI_add, iI_sub, iI_mul, iI_neg, iI_and, iI_or, iI_xor, iI_shl, iI_shr, iI_ushr, iI_div, iI_b, iI_c, iI_i2l, lI_l2i, lI_add, lI_sub, lI_mul, lI_neg, lI_div, lI_or, lI_and, lI_shl, lI_shr, nI_iI, lg_lt0, lg_gt0, lg_eq0, i_ne0', l_ne0', iI_lt, iI_le, iI_eq, lI_lt, lI_le, lI_eq, zb_0, zb_fit, zb_fit0, zb_fit1, i_one_zero, i_w_in, z_tb0, z_tb1, z_tb2, z_tb3, z_tb4, z_tb5, z_tb6, z_tb7, z_tb8, z_tbl, z_tu0, z_tu1, z_tu2, z_i_62, z_i_63, z_i_86, z_i_88, z_l_Y, z_ui_62, z_ui_63, z_ui_86, z_ui_88, z_ul_Y, z_sz_Y, z_sw_Y, iI_nat, z_ix_t, z_at, Int.add_zero, Int.sub_zero, Int.zero_add, Int.mul_zero, ne_eq, Bool.false_eq_true, Bool.true_eq_false, reduceCtorEq, eq_self, and_true, true_and, and_false, false_and, and_self, not_true_eq_false, not_false_eq_true, decide_true, decide_false, ↓reduceIte, Int.reduceEq, Int.reduceNe, Int.reduceLT, Int.reduceLE, Int.reduceAdd, Int.reduceSub, Int.reduceMul, Int.reduceNeg, Nat.reduceAdd, Nat.reduceEqDiff, Nat.reduceBEq, ↓z_x_eq, z_g_t, z_bI_s, z_bL_s, z_bR_s, z_bV_s, Int.cast_ofNat_Int, beq_self_eq_true, Bool.and_true, Bool.true_and, Bool.and_self, Bool.or_true, Bool.true_or, Bool.false_and, Bool.and_false, Bool.false_or, Bool.or_false, Bool.not_false, Bool.not_true, if_true, if_false, ite_true, ite_false, z_up_eq, z_up_app, z_ro_eq, em, r3]
  obtain ⟨hn, f1, f2, ⟨t1, t2, t3, t4⟩, f4, f5, f6, f7, f8, f9, f10, f11, f12, f13⟩ := h
  refine ok_ret ⟨by rw [show G 42 3 = G 82 3 from f2.2.2.2.1.1.2.1], z_t4 T 41 19, z_up (k_aB G) 81 R, s, rfl, ?_, rfl⟩
  have ne : ∀ r, r ≠ 81 → ¬ (11 ≤ r ∧ r ≤ 32) → z_up (k_aB G) 81 R r = G r := fun r a b => by rw [z_up_ne _ _ a, k_aB_ne G (by omega)]
  have m5 := f2.1.2.2.2.2.2.1
  have i5 : z_up (k_aB G) 81 R 81 5 = G 82 5 := by rw [z_up_eq]; exact hR 5 (by omega) (by omega)
  have n82 := ne 82 (by omega) (by omega)
  have n83 := ne 83 (by omega) (by omega)
  have n80 := ne 80 (by omega) (by omega)
  have hI : c_now (z_up (k_aB G) 81 R) := by
    unfold c_now
    rw [z_up_eq]
    refine c_sd_eq (fun r a => z_up_ne _ _ (by omega)) (c_sd_cp f2 hR (k_aB_cp G))
  have tT : ∀ t, 0 ≤ t → t < G 82 5 → t_txt (z_t4 T 41 19) (z_up (k_aB G) 81 R) t (z_rt T 41 t.toNat) := fun t a b => t_txt_T (T := T) (fun r a b => rfl) (fun r j a b => z_t4_ne (by omega)) (f5 t a b) (t_txt_eq (fun r a => ne r (by omega) (by omega)) n83 (t4 t a b))
  have tL : ∀ t, 0 ≤ t → t < G 82 5 → t_lt (z_t4 T 41 19) (z_rt T 41 t.toNat) := fun t a b => t_lt_T (T := T) (fun j => z_t4_ne (by have := (t4 t a b).1; omega)) (Nat.le_refl _) (f5 t a b)
  refine ⟨hI, fun r q => (ne r (by omega) (by omega)).trans (f1 r q), c_img_eq (fun r a b => ne r (by omega) (by omega)) n82 f2, ⟨?_, ?_, ?_, ?_⟩, ?_, ?_, ?_, ?_, ?_, z_ask_up f9 (ne 61 (by omega) (by omega)) (ne 64 (by omega) (by omega)), ⟨f10.1, by have := f10.2; show (T.2.2.1 : Int) ≤ _; omega⟩, by show (T.2.2.2 : Int) ≤ _; omega, by omega, ?_⟩
  · rw [n83, i5]; exact fun t a b => t1 t a (by omega)
  · intro t a b
    rw [i5] at b
    rw [z_t4_19 (by omega)]; exact tT t a b
  · rw [i5, n82]; exact Int.le_refl _
  · intro t a b
    rw [n82] at b
    rw [z_t4_ne (by omega)]; exact tT t a b
  · intro t a b
    rw [i5] at b
    rw [z_t4_19 (by omega)]; exact tL t a b
  · intro t a b
    rw [n82] at b
    rw [z_t4_ne (by omega)]; exact tL t a b
  · rw [n80]; exact f6
  · unfold z_tape at *
    rw [n80, ne 10 (by omega) (by omega), ne 84 (by omega) (by omega), ne 55 (by omega) (by omega)]; exact f7
  · unfold z_flt at *
    rw [n80, ne 56 (by omega) (by omega)]; exact f8
  · constructor
    · intro k a b
      rw [i5] at b
      rw [z_t4_19 a]; exact f13.2 k a b
    · intro k a b
      rw [n82] at b
      rw [z_t4_ne (by omega)]; exact f13.2 k a b

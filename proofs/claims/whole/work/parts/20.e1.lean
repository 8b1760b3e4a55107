/-! the methods as equations, printed by program (gen/emit.py); each holds by reduction -/
set_option maxRecDepth 100000 in
theorem e_H_init (d : Nat) (r0 : Nat) (σ : ZM) : z_call (d + 1) 3 [vr r0] σ =
  z_bV (z_call d 0 [vr r0] σ) (fun σ1 =>
  z_g (z_kd σ1 r0 == 4) (z_x (z_ui σ1 r0 0 (0 : Int32)) (fun σ2 =>
  z_x (z_al σ2 20 10 10) (fun σ3 =>
  z_g (z_kd σ3 r0 == 4) (z_x (z_ur σ3 r0 1 (z_sz σ2)) (fun σ4 =>
  z_x (z_al σ4 20 10 10) (fun σ5 =>
  z_g (z_kd σ5 r0 == 4) (z_x (z_ur σ5 r0 2 (z_sz σ4)) (fun σ6 =>
  z_g (z_kd σ6 r0 == 4) (z_x (z_ui σ6 r0 3 (0 : Int32)) (fun σ7 =>
  z_x (z_al σ7 20 10 10) (fun σ8 =>
  z_g (z_kd σ8 r0 == 4) (z_x (z_ur σ8 r0 4 (z_sz σ7)) (fun σ9 =>
  z_x (z_al σ9 20 10 10) (fun σ10 =>
  z_g (z_kd σ10 r0 == 4) (z_x (z_ur σ10 r0 5 (z_sz σ9)) (fun σ11 =>
  z_x (z_al σ11 20 10 10) (fun σ12 =>
  z_g (z_kd σ12 r0 == 4) (z_x (z_ur σ12 r0 6 (z_sz σ11)) (fun σ13 =>
  z_g (z_kd σ13 r0 == 4) (z_x (z_ui σ13 r0 7 (0 : Int32)) (fun σ14 =>
  z_x (z_al σ14 20 12 12) (fun σ15 =>
  z_g (z_kd σ15 r0 == 4) (z_x (z_ur σ15 r0 8 (z_sz σ14)) (fun σ16 =>
  z_x (z_al σ16 20 12 12) (fun σ17 =>
  z_g (z_kd σ17 r0 == 4) (z_x (z_ur σ17 r0 9 (z_sz σ16)) (fun σ18 =>
  z_g (z_kd σ18 r0 == 4) (z_x (z_ui σ18 r0 10 (0 : Int32)) (fun σ19 =>
  z_x (z_al σ19 24 4 4) (fun σ20 =>
  z_g (z_kd σ20 r0 == 4) (z_x (z_ur σ20 r0 11 (z_sz σ19)) (fun σ21 =>
  z_g (z_kd σ21 r0 == 4) (z_x (z_ui σ21 r0 12 (-1 : Int32)) (fun σ22 =>
  some (vi 0, σ22)))))))))))))))))))))))))))))))))))) := (z_w_eq _ _ _ _ _ _).trans rfl
set_option maxRecDepth 100000 in
theorem e_Ar_fill (d : Nat) (r0 : Nat) (x1 : Int32) (σ : ZM) : z_call (d + 1) 4 [vr r0, vi x1] σ =
  z_g (Nat.ble 20 (z_kd σ r0) && Nat.ble (z_kd σ r0) 24) (z_x (nI (z_ln σ r0)) (fun u1 => z_w d_Ar_fill (z_call d) 5 [some (vr r0), some (vi x1), some (vi (0 : Int32)), some (vi u1)] [] σ)) := (z_w_eq _ _ _ _ _ _).trans rfl
set_option maxRecDepth 100000 in
theorem e_Ar_fill_5 (cl : Nat → List ZV → ZM → ZR) (r0 : Nat) (x1 : Int32) (x2 : Int32) (x3 : Int32) (σ : ZM) : z_w d_Ar_fill cl 5 [some (vr r0), some (vi x1), some (vi x2), some (vi x3)] [] σ =
  if x2 < x3 then
    z_g (z_at σ r0 20 x2 && Nat.ble 10 r0) (z_x (z_ui σ r0 x2.toNatClampNeg x1) (fun σ1 =>
    z_w d_Ar_fill cl 5 [some (vr r0), some (vi x1), some (vi (x2 + (1 : Int32))), some (vi x3)] [] σ1))
  else
    some (vi 0, σ) := (z_w_eq _ _ _ _ _ _).trans rfl
set_option maxRecDepth 100000 in
theorem e_Mo_init (d : Nat) (r0 : Nat) (σ : ZM) : z_call (d + 1) 5 [vr r0] σ =
  z_bV (z_call d 0 [vr r0] σ) (fun σ1 =>
  z_x (z_al σ1 20 10 10) (fun σ2 =>
  z_g (z_kd σ2 r0 == 5) (z_x (z_ur σ2 r0 0 (z_sz σ1)) (fun σ3 =>
  z_x (z_al σ3 20 10 10) (fun σ4 =>
  z_g (z_kd σ4 r0 == 5) (z_x (z_ur σ4 r0 1 (z_sz σ3)) (fun σ5 =>
  z_g (z_kd σ5 r0 == 5) (z_x (z_ui σ5 r0 2 (0 : Int32)) (fun σ6 =>
  z_g (z_kd σ6 r0 == 5) (z_x (z_ui σ6 r0 3 (0 : Int32)) (fun σ7 =>
  z_g (z_kd σ7 r0 == 5) (z_x (z_ui σ7 r0 4 (71 : Int32)) (fun σ8 =>
  z_g (z_kd σ8 r0 == 5) (z_x (z_ui σ8 r0 5 (0 : Int32)) (fun σ9 =>
  z_x (z_al σ9 20 20 20) (fun σ10 =>
  z_g (z_kd σ10 r0 == 5) (z_x (z_ur σ10 r0 6 (z_sz σ9)) (fun σ11 =>
  z_x (z_al σ11 20 20 20) (fun σ12 =>
  z_g (z_kd σ12 r0 == 5) (z_x (z_ur σ12 r0 7 (z_sz σ11)) (fun σ13 =>
  z_g (z_kd σ13 r0 == 5) (z_bV (z_call d 4 [vr (z_r σ13 r0 0), vi (-1 : Int32)] σ13) (fun σ14 =>
  some (vi 0, σ14)))))))))))))))))))))))) := (z_w_eq _ _ _ _ _ _).trans rfl
set_option maxRecDepth 100000 in
theorem e_St_init (d : Nat) (r0 : Nat) (σ : ZM) : z_call (d + 1) 6 [vr r0] σ =
  z_bV (z_call d 0 [vr r0] σ) (fun σ1 =>
  z_x (z_al σ1 20 720 720) (fun σ2 =>
  z_g (z_kd σ2 r0 == 8) (z_x (z_ur σ2 r0 0 (z_sz σ1)) (fun σ3 =>
  z_g (z_kd σ3 r0 == 8) (z_x (z_ui σ3 r0 1 (0 : Int32)) (fun σ4 =>
  z_g (z_kd σ4 r0 == 8) (z_x (z_ui σ4 r0 2 (0 : Int32)) (fun σ5 =>
  some (vi 0, σ5))))))))) := (z_w_eq _ _ _ _ _ _).trans rfl
set_option maxRecDepth 100000 in
theorem e_To_init (d : Nat) (r0 : Nat) (σ : ZM) : z_call (d + 1) 7 [vr r0] σ =
  z_bV (z_call d 0 [vr r0] σ) (fun σ1 =>
  z_g (z_kd σ1 r0 == 10) (z_x (z_ui σ1 r0 0 (0 : Int32)) (fun σ2 =>
  z_x (z_al σ2 20 8 8) (fun σ3 =>
  z_g (z_kd σ3 r0 == 10) (z_x (z_ur σ3 r0 1 (z_sz σ2)) (fun σ4 =>
  z_x (z_al σ4 20 8 8) (fun σ5 =>
  z_g (z_kd σ5 r0 == 10) (z_x (z_ur σ5 r0 2 (z_sz σ4)) (fun σ6 =>
  z_g (z_kd σ6 r0 == 10) (z_x (z_ui σ6 r0 3 (0 : Int32)) (fun σ7 =>
  z_x (z_al σ7 20 8 8) (fun σ8 =>
  z_g (z_kd σ8 r0 == 10) (z_x (z_ur σ8 r0 4 (z_sz σ7)) (fun σ9 =>
  z_x (z_al σ9 20 8 8) (fun σ10 =>
  z_g (z_kd σ10 r0 == 10) (z_x (z_ur σ10 r0 5 (z_sz σ9)) (fun σ11 =>
  z_x (z_al σ11 20 8 8) (fun σ12 =>
  z_g (z_kd σ12 r0 == 10) (z_x (z_ur σ12 r0 6 (z_sz σ11)) (fun σ13 =>
  some (vi 0, σ13))))))))))))))))))))) := (z_w_eq _ _ _ _ _ _).trans rfl
set_option maxRecDepth 100000 in
theorem e_Re_init (d : Nat) (r0 : Nat) (σ : ZM) : z_call (d + 1) 8 [vr r0] σ =
  z_bV (z_call d 0 [vr r0] σ) (fun σ1 =>
  z_x (z_al σ1 20 301 301) (fun σ2 =>
  z_g (z_kd σ2 r0 == 7) (z_x (z_ur σ2 r0 0 (z_sz σ1)) (fun σ3 =>
  z_x (z_al σ3 20 301 301) (fun σ4 =>
  z_g (z_kd σ4 r0 == 7) (z_x (z_ur σ4 r0 1 (z_sz σ3)) (fun σ5 =>
  z_g (z_kd σ5 r0 == 7) (z_x (z_ui σ5 r0 2 (0 : Int32)) (fun σ6 =>
  z_g (z_kd σ6 r0 == 7) (z_x (z_ui σ6 r0 3 (0 : Int32)) (fun σ7 =>
  z_g (z_kd σ7 r0 == 7) (z_x (z_ui σ7 r0 4 (0 : Int32)) (fun σ8 =>
  z_x (z_al σ8 20 300 300) (fun σ9 =>
  z_g (z_kd σ9 r0 == 7) (z_x (z_ur σ9 r0 5 (z_sz σ8)) (fun σ10 =>
  z_g (z_kd σ10 r0 == 7) (z_x (z_ui σ10 r0 6 (0 : Int32)) (fun σ11 =>
  z_g (z_kd σ11 r0 == 7) (z_x (z_ui σ11 r0 7 (1 : Int32)) (fun σ12 =>
  z_g (z_kd σ12 r0 == 7) (z_x (z_ur σ12 r0 8 0) (fun σ13 =>
  z_g (z_kd σ13 r0 == 7) (z_x (z_ur σ13 r0 9 0) (fun σ14 =>
  z_g (z_kd σ14 r0 == 7) (z_x (z_ur σ14 r0 10 0) (fun σ15 =>
  z_x (z_al σ15 20 96 96) (fun σ16 =>
  z_g (z_kd σ16 r0 == 7) (z_x (z_ur σ16 r0 11 (z_sz σ15)) (fun σ17 =>
  z_g (z_kd σ17 r0 == 7) (z_x (z_ui σ17 r0 12 (0 : Int32)) (fun σ18 =>
  z_g (z_kd σ18 r0 == 7) (z_x (z_ui σ18 r0 13 (0 : Int32)) (fun σ19 =>
  z_g (z_kd σ19 r0 == 7) (z_x (z_ui σ19 r0 14 (0 : Int32)) (fun σ20 =>
  z_g (z_kd σ20 r0 == 7) (z_x (z_ui σ20 r0 15 (-1 : Int32)) (fun σ21 =>
  some (vi 0, σ21)))))))))))))))))))))))))))))))))))))) := (z_w_eq _ _ _ _ _ _).trans rfl
set_option maxRecDepth 100000 in
theorem e_Br_init (d : Nat) (r0 : Nat) (r1 : Nat) (r2 : Nat) (σ : ZM) : z_call (d + 1) 9 [vr r0, vr r1, vr r2] σ =
  z_bV (z_call d 0 [vr r0] σ) (fun σ1 =>
  z_x (z_al σ1 20 10 10) (fun σ2 =>
  z_g (z_kd σ2 r0 == 1) (z_x (z_ur σ2 r0 2 (z_sz σ1)) (fun σ3 =>
  z_x (z_al σ3 20 64 64) (fun σ4 =>
  z_g (z_kd σ4 r0 == 1) (z_x (z_ur σ4 r0 3 (z_sz σ3)) (fun σ5 =>
  z_x (z_al σ5 20 181 181) (fun σ6 =>
  z_g (z_kd σ6 r0 == 1) (z_x (z_ur σ6 r0 4 (z_sz σ5)) (fun σ7 =>
  z_g (z_kd σ7 r0 == 1) (z_x (z_ui σ7 r0 5 (0 : Int32)) (fun σ8 =>
  z_g (z_kd σ8 r0 == 1) (z_x (z_ui σ8 r0 6 (0 : Int32)) (fun σ9 =>
  z_g (z_kd σ9 r0 == 1) (z_x (z_ur σ9 r0 0 r1) (fun σ10 =>
  z_g (z_kd σ10 r0 == 1) (z_x (z_ur σ10 r0 1 r2) (fun σ11 =>
  some (vi 0, σ11))))))))))))))))))) := (z_w_eq _ _ _ _ _ _).trans rfl
set_option maxRecDepth 100000 in
theorem e_De_init (d : Nat) (r0 : Nat) (r1 : Nat) (r2 : Nat) (r3 : Nat) (r4 : Nat) (σ : ZM) : z_call (d + 1) 10 [vr r0, vr r1, vr r2, vr r3, vr r4] σ =
  z_bV (z_call d 0 [vr r0] σ) (fun σ1 =>
  z_g (z_kd σ1 r0 == 2) (z_x (z_ur σ1 r0 0 r1) (fun σ2 =>
  z_g (z_kd σ2 r0 == 2) (z_x (z_ur σ2 r0 1 r2) (fun σ3 =>
  z_g (z_kd σ3 r0 == 2) (z_x (z_ur σ3 r0 2 r3) (fun σ4 =>
  z_g (z_kd σ4 r0 == 2) (z_x (z_ur σ4 r0 3 r4) (fun σ5 =>
  some (vi 0, σ5)))))))))) := (z_w_eq _ _ _ _ _ _).trans rfl
set_option maxRecDepth 100000 in
theorem e_Qu_init (d : Nat) (r0 : Nat) (r1 : Nat) (r2 : Nat) (r3 : Nat) (r4 : Nat) (σ : ZM) : z_call (d + 1) 11 [vr r0, vr r1, vr r2, vr r3, vr r4] σ =
  z_bV (z_call d 0 [vr r0] σ) (fun σ1 =>
  z_x (z_al σ1 20 12 12) (fun σ2 =>
  z_g (z_kd σ2 r0 == 6) (z_x (z_ur σ2 r0 4 (z_sz σ1)) (fun σ3 =>
  z_x (z_al σ3 20 8 8) (fun σ4 =>
  z_g (z_kd σ4 r0 == 6) (z_x (z_ur σ4 r0 5 (z_sz σ3)) (fun σ5 =>
  z_x (z_al σ5 20 20 20) (fun σ6 =>
  z_g (z_kd σ6 r0 == 6) (z_x (z_ur σ6 r0 6 (z_sz σ5)) (fun σ7 =>
  z_g (z_kd σ7 r0 == 6) (z_x (z_ur σ7 r0 0 r1) (fun σ8 =>
  z_g (z_kd σ8 r0 == 6) (z_x (z_ur σ8 r0 1 r2) (fun σ9 =>
  z_g (z_kd σ9 r0 == 6) (z_x (z_ur σ9 r0 2 r3) (fun σ10 =>
  z_g (z_kd σ10 r0 == 6) (z_x (z_ur σ10 r0 3 r4) (fun σ11 =>
  some (vi 0, σ11))))))))))))))))))) := (z_w_eq _ _ _ _ _ _).trans rfl
set_option maxRecDepth 100000 in
theorem e_Ga_init (d : Nat) (r0 : Nat) (r1 : Nat) (r2 : Nat) (r3 : Nat) (r4 : Nat) (σ : ZM) : z_call (d + 1) 12 [vr r0, vr r1, vr r2, vr r3, vr r4] σ =
  z_bV (z_call d 0 [vr r0] σ) (fun σ1 =>
  z_x (z_al σ1 20 5 5) (fun σ2 =>
  z_g (z_kd σ2 r0 == 3) (z_x (z_ur σ2 r0 4 (z_sz σ1)) (fun σ3 =>
  z_x (z_al σ3 20 5 5) (fun σ4 =>
  z_g (z_kd σ4 r0 == 3) (z_x (z_ur σ4 r0 5 (z_sz σ3)) (fun σ5 =>
  z_x (z_al σ5 20 5 5) (fun σ6 =>
  z_g (z_kd σ6 r0 == 3) (z_x (z_ur σ6 r0 6 (z_sz σ5)) (fun σ7 =>
  z_x (z_al σ7 20 25 25) (fun σ8 =>
  z_g (z_kd σ8 r0 == 3) (z_x (z_ur σ8 r0 7 (z_sz σ7)) (fun σ9 =>
  z_x (z_al σ9 20 120 120) (fun σ10 =>
  z_g (z_kd σ10 r0 == 3) (z_x (z_ur σ10 r0 8 (z_sz σ9)) (fun σ11 =>
  z_x (z_al σ11 20 5 5) (fun σ12 =>
  z_g (z_kd σ12 r0 == 3) (z_x (z_ur σ12 r0 9 (z_sz σ11)) (fun σ13 =>
  z_x (z_al σ13 20 32 32) (fun σ14 =>
  z_g (z_kd σ14 r0 == 3) (z_x (z_ur σ14 r0 10 (z_sz σ13)) (fun σ15 =>
  z_x (z_al σ15 20 32 32) (fun σ16 =>
  z_g (z_kd σ16 r0 == 3) (z_x (z_ur σ16 r0 11 (z_sz σ15)) (fun σ17 =>
  z_x (z_al σ17 20 32 32) (fun σ18 =>
  z_g (z_kd σ18 r0 == 3) (z_x (z_ur σ18 r0 12 (z_sz σ17)) (fun σ19 =>
  z_g (z_kd σ19 r0 == 3) (z_x (z_ur σ19 r0 0 r1) (fun σ20 =>
  z_g (z_kd σ20 r0 == 3) (z_x (z_ur σ20 r0 1 r2) (fun σ21 =>
  z_g (z_kd σ21 r0 == 3) (z_x (z_ur σ21 r0 2 r3) (fun σ22 =>
  z_g (z_kd σ22 r0 == 3) (z_x (z_ur σ22 r0 3 r4) (fun σ23 =>
  some (vi 0, σ23))))))))))))))))))))))))))))))))))))) := (z_w_eq _ _ _ _ _ _).trans rfl
set_option maxRecDepth 100000 in
theorem e_B_init (d : Nat) (r0 : Nat) (σ : ZM) : z_call (d + 1) 13 [vr r0] σ =
  z_bV (z_call d 0 [vr r0] σ) (fun σ1 =>
  z_x (z_al σ1 4 0 13) (fun σ2 =>
  z_x (z_sz σ1) (fun u3 => z_g (!(u3 == 0) && !(u3 == 9)) (z_bV (z_call d 3 [vr u3] σ2) (fun σ4 =>
  z_g (z_kd σ4 r0 == 11) (z_x (z_ur σ4 r0 0 u3) (fun σ5 =>
  z_x (z_al σ5 5 0 8) (fun σ6 =>
  z_x (z_sz σ5) (fun u7 => z_g (!(u7 == 0) && !(u7 == 9)) (z_bV (z_call d 5 [vr u7] σ6) (fun σ8 =>
  z_g (z_kd σ8 r0 == 11) (z_x (z_ur σ8 r0 1 u7) (fun σ9 =>
  z_x (z_al σ9 8 0 3) (fun σ10 =>
  z_x (z_sz σ9) (fun u11 => z_g (!(u11 == 0) && !(u11 == 9)) (z_bV (z_call d 6 [vr u11] σ10) (fun σ12 =>
  z_g (z_kd σ12 r0 == 11) (z_x (z_ur σ12 r0 2 u11) (fun σ13 =>
  z_x (z_al σ13 10 0 7) (fun σ14 =>
  z_x (z_sz σ13) (fun u15 => z_g (!(u15 == 0) && !(u15 == 9)) (z_bV (z_call d 7 [vr u15] σ14) (fun σ16 =>
  z_g (z_kd σ16 r0 == 11) (z_x (z_ur σ16 r0 3 u15) (fun σ17 =>
  z_x (z_al σ17 4 0 13) (fun σ18 =>
  z_x (z_sz σ17) (fun u19 => z_g (!(u19 == 0) && !(u19 == 9)) (z_bV (z_call d 3 [vr u19] σ18) (fun σ20 =>
  z_g (z_kd σ20 r0 == 11) (z_x (z_ur σ20 r0 4 u19) (fun σ21 =>
  z_x (z_al σ21 5 0 8) (fun σ22 =>
  z_x (z_sz σ21) (fun u23 => z_g (!(u23 == 0) && !(u23 == 9)) (z_bV (z_call d 5 [vr u23] σ22) (fun σ24 =>
  z_g (z_kd σ24 r0 == 11) (z_x (z_ur σ24 r0 5 u23) (fun σ25 =>
  z_x (z_al σ25 8 0 3) (fun σ26 =>
  z_x (z_sz σ25) (fun u27 => z_g (!(u27 == 0) && !(u27 == 9)) (z_bV (z_call d 6 [vr u27] σ26) (fun σ28 =>
  z_g (z_kd σ28 r0 == 11) (z_x (z_ur σ28 r0 6 u27) (fun σ29 =>
  z_x (z_al σ29 10 0 7) (fun σ30 =>
  z_x (z_sz σ29) (fun u31 => z_g (!(u31 == 0) && !(u31 == 9)) (z_bV (z_call d 7 [vr u31] σ30) (fun σ32 =>
  z_g (z_kd σ32 r0 == 11) (z_x (z_ur σ32 r0 7 u31) (fun σ33 =>
  z_x (z_al σ33 21 300 300) (fun σ34 =>
  z_g (z_kd σ34 r0 == 11) (z_x (z_ur σ34 r0 8 (z_sz σ33)) (fun σ35 =>
  z_g (z_kd σ35 r0 == 11) (z_x (z_ui σ35 r0 9 (0 : Int32)) (fun σ36 =>
  z_x (z_al σ36 7 0 16) (fun σ37 =>
  z_x (z_sz σ36) (fun u38 => z_g (!(u38 == 0) && !(u38 == 9)) (z_bV (z_call d 8 [vr u38] σ37) (fun σ39 =>
  z_g (z_kd σ39 r0 == 11) (z_x (z_ur σ39 r0 10 u38) (fun σ40 =>
  z_x (z_al σ40 1 0 7) (fun σ41 =>
  z_x (z_sz σ40) (fun u42 => z_g (z_kd σ41 r0 == 11) (z_g (z_kd σ41 r0 == 11) (z_g (!(u42 == 0) && !(u42 == 9)) (z_bV (z_call d 9 [vr u42, vr (z_r σ41 r0 0), vr (z_r σ41 r0 1)] σ41) (fun σ43 =>
  z_g (z_kd σ43 r0 == 11) (z_x (z_ur σ43 r0 11 u42) (fun σ44 =>
  z_x (z_al σ44 2 0 4) (fun σ45 =>
  z_x (z_sz σ44) (fun u46 => z_g (z_kd σ45 r0 == 11) (z_g (z_kd σ45 r0 == 11) (z_g (z_kd σ45 r0 == 11) (z_g (z_kd σ45 r0 == 11) (z_g (!(u46 == 0) && !(u46 == 9)) (z_bV (z_call d 10 [vr u46, vr (z_r σ45 r0 0), vr (z_r σ45 r0 1), vr (z_r σ45 r0 2), vr (z_r σ45 r0 11)] σ45) (fun σ47 =>
  z_g (z_kd σ47 r0 == 11) (z_x (z_ur σ47 r0 12 u46) (fun σ48 =>
  z_x (z_al σ48 6 0 7) (fun σ49 =>
  z_x (z_sz σ48) (fun u50 => z_g (z_kd σ49 r0 == 11) (z_g (z_kd σ49 r0 == 11) (z_g (z_kd σ49 r0 == 11) (z_g (z_kd σ49 r0 == 11) (z_g (!(u50 == 0) && !(u50 == 9)) (z_bV (z_call d 11 [vr u50, vr (z_r σ49 r0 0), vr (z_r σ49 r0 1), vr (z_r σ49 r0 3), vr (z_r σ49 r0 11)] σ49) (fun σ51 =>
  z_g (z_kd σ51 r0 == 11) (z_x (z_ur σ51 r0 13 u50) (fun σ52 =>
  z_x (z_al σ52 3 0 13) (fun σ53 =>
  z_x (z_sz σ52) (fun u54 => z_g (z_kd σ53 r0 == 11) (z_g (z_kd σ53 r0 == 11) (z_g (z_kd σ53 r0 == 11) (z_g (z_kd σ53 r0 == 11) (z_g (!(u54 == 0) && !(u54 == 9)) (z_bV (z_call d 12 [vr u54, vr (z_r σ53 r0 0), vr (z_r σ53 r0 1), vr (z_r σ53 r0 3), vr (z_r σ53 r0 11)] σ53) (fun σ55 =>
  z_g (z_kd σ55 r0 == 11) (z_x (z_ur σ55 r0 14 u54) (fun σ56 =>
  some (vi 0, σ56))))))))))))))))))))))))))))))))))))))))))))))))))))))))))))))))))))))))))))))))))))))))))))))))))) := (z_w_eq _ _ _ _ _ _).trans rfl
set_option maxRecDepth 100000 in
theorem e_M_copy (d : Nat) (r0 : Nat) (r1 : Nat) (σ : ZM) : z_call (d + 1) 14 [vr r0, vr r1] σ =
  z_w d_M_copy (z_call d) 2 [some (vr r0), some (vr r1), some (vi (0 : Int32))] [] σ := (z_w_eq _ _ _ _ _ _).trans rfl
set_option maxRecDepth 100000 in
theorem e_M_copy_2 (cl : Nat → List ZV → ZM → ZR) (r0 : Nat) (r1 : Nat) (x2 : Int32) (σ : ZM) : z_w d_M_copy cl 2 [some (vr r0), some (vr r1), some (vi x2)] [] σ =
  if x2 < (2136 : Int32) then
    z_g (z_at σ r0 20 x2) (z_g (z_at σ r1 20 x2 && Nat.ble 10 r1) (z_x (z_ui σ r1 x2.toNatClampNeg (z_i σ r0 x2.toNatClampNeg)) (fun σ1 =>
    z_w d_M_copy cl 2 [some (vr r0), some (vr r1), some (vi (x2 + (1 : Int32)))] [] σ1)))
  else
    some (vi 0, σ) := (z_w_eq _ _ _ _ _ _).trans rfl
set_option maxRecDepth 100000 in
theorem e_M_init (d : Nat) (r0 : Nat) (σ : ZM) : z_call (d + 1) 15 [vr r0] σ =
  z_bV (z_call d 0 [vr r0] σ) (fun σ1 =>
  z_x (z_al σ1 20 2136 2136) (fun σ2 =>
  z_g (z_kd σ2 r0 == 12) (z_x (z_ur σ2 r0 0 (z_sz σ1)) (fun σ3 =>
  z_x (z_al σ3 20 2136 2136) (fun σ4 =>
  z_g (z_kd σ4 r0 == 12) (z_x (z_ur σ4 r0 1 (z_sz σ3)) (fun σ5 =>
  z_x (z_al σ5 20 2820 2820) (fun σ6 =>
  z_g (z_kd σ6 r0 == 12) (z_x (z_ur σ6 r0 2 (z_sz σ5)) (fun σ7 =>
  z_x (z_al σ7 20 300 300) (fun σ8 =>
  z_g (z_kd σ8 r0 == 12) (z_x (z_ur σ8 r0 3 (z_sz σ7)) (fun σ9 =>
  z_g (z_kd σ9 r0 == 12) (z_x (z_ui σ9 r0 5 (-1 : Int32)) (fun σ10 =>
  z_g (z_kd σ10 r0 == 12) (z_x (z_ui σ10 r0 6 (-1 : Int32)) (fun σ11 =>
  z_x (z_al σ11 20 160 160) (fun σ12 =>
  z_g (z_kd σ12 r0 == 12) (z_x (z_ur σ12 r0 15 (z_sz σ11)) (fun σ13 =>
  z_x (z_al σ13 20 10 10) (fun σ14 =>
  z_g (z_kd σ14 r0 == 12) (z_x (z_ur σ14 r0 21 (z_sz σ13)) (fun σ15 =>
  z_x (z_al σ15 23 330 330) (fun σ16 =>
  z_g (z_kd σ16 r0 == 12) (z_x (z_ur σ16 r0 22 (z_sz σ15)) (fun σ17 =>
  z_x (z_al σ17 22 330 330) (fun σ18 =>
  z_g (z_kd σ18 r0 == 12) (z_x (z_ur σ18 r0 23 (z_sz σ17)) (fun σ19 =>
  z_g (z_kd σ19 r0 == 12) (z_x (z_ui σ19 r0 24 (-1 : Int32)) (fun σ20 =>
  z_x (z_al σ20 20 10 10) (fun σ21 =>
  z_g (z_kd σ21 r0 == 12) (z_x (z_ur σ21 r0 26 (z_sz σ20)) (fun σ22 =>
  z_x (z_al σ22 20 10 10) (fun σ23 =>
  z_g (z_kd σ23 r0 == 12) (z_x (z_ur σ23 r0 27 (z_sz σ22)) (fun σ24 =>
  z_x (z_al σ24 20 10 10) (fun σ25 =>
  z_g (z_kd σ25 r0 == 12) (z_x (z_ur σ25 r0 28 (z_sz σ24)) (fun σ26 =>
  z_x (z_al σ26 20 10 10) (fun σ27 =>
  z_g (z_kd σ27 r0 == 12) (z_x (z_ur σ27 r0 29 (z_sz σ26)) (fun σ28 =>
  z_x (z_al σ28 20 10 10) (fun σ29 =>
  z_g (z_kd σ29 r0 == 12) (z_x (z_ur σ29 r0 30 (z_sz σ28)) (fun σ30 =>
  z_x (z_al σ30 20 10 10) (fun σ31 =>
  z_g (z_kd σ31 r0 == 12) (z_x (z_ur σ31 r0 32 (z_sz σ30)) (fun σ32 =>
  z_x (z_al σ32 20 10 10) (fun σ33 =>
  z_g (z_kd σ33 r0 == 12) (z_x (z_ur σ33 r0 33 (z_sz σ32)) (fun σ34 =>
  z_x (z_al σ34 22 2048 2048) (fun σ35 =>
  z_g (z_kd σ35 r0 == 12) (z_x (z_ur σ35 r0 34 (z_sz σ34)) (fun σ36 =>
  z_x (z_al σ36 22 1024 1024) (fun σ37 =>
  z_g (z_kd σ37 r0 == 12) (z_x (z_ur σ37 r0 35 (z_sz σ36)) (fun σ38 =>
  z_g (z_kd σ38 r0 == 12) (z_g (z_at σ38 (z_r σ38 r0 0) 20 (4 : Int32) && Nat.ble 10 (z_r σ38 r0 0)) (z_x (z_ui σ38 (z_r σ38 r0 0) (4 : Int32).toNatClampNeg (71 : Int32)) (fun σ39 =>
  z_g (z_kd σ39 r0 == 12) (z_g (z_at σ39 (z_r σ39 r0 0) 20 (6 : Int32) && Nat.ble 10 (z_r σ39 r0 0)) (z_x (z_ui σ39 (z_r σ39 r0 0) (6 : Int32).toNatClampNeg (-1 : Int32)) (fun σ40 =>
  z_g (z_kd σ40 r0 == 12) (z_g (z_kd σ40 r0 == 12) (z_bV (z_call d 14 [vr (z_r σ40 r0 0), vr (z_r σ40 r0 1)] σ40) (fun σ41 =>
  some (vi 0, σ41)))))))))))))))))))))))))))))))))))))))))))))))))))))))))))))))))))) := (z_w_eq _ _ _ _ _ _).trans rfl
set_option maxRecDepth 100000 in
theorem e_B_within (d : Nat) (x0 : Int32) (x1 : Int32) (x2 : Int32) (σ : ZM) : z_call (d + 1) 16 [vi x0, vi x1, vi x2] σ =
  if x0 < x1 then
    some (vi (0 : Int32), σ)
  else
    if x2 < x0 then
      some (vi (0 : Int32), σ)
    else
      some (vi (1 : Int32), σ) := (z_w_eq _ _ _ _ _ _).trans rfl
set_option maxRecDepth 100000 in
theorem e_H_addSeat (d : Nat) (r0 : Nat) (x1 : Int32) (x2 : Int32) (σ : ZM) : z_call (d + 1) 17 [vr r0, vi x1, vi x2] σ =
  z_bI (z_call d 16 [vi x1, vi (0 : Int32), vi (3 : Int32)] σ) (fun v2 σ1 =>
  if v2 = 0 then
    some (vi (-1 : Int32), σ1)
  else
    z_bI (z_call d 16 [vi x2, vi (0 : Int32), vi (9 : Int32)] σ1) (fun v4 σ3 =>
    if v4 = 0 then
      some (vi (-1 : Int32), σ3)
    else
      z_g (z_kd σ3 r0 == 4) (if (z_i σ3 r0 0) < (10 : Int32) then
        z_g (z_kd σ3 r0 == 4) (z_g (z_kd σ3 r0 == 4) (z_g (z_at σ3 (z_r σ3 r0 1) 20 (z_i σ3 r0 0) && Nat.ble 10 (z_r σ3 r0 1)) (z_x (z_ui σ3 (z_r σ3 r0 1) (z_i σ3 r0 0).toNatClampNeg x1) (fun σ5 =>
        z_g (z_kd σ5 r0 == 4) (z_g (z_kd σ5 r0 == 4) (z_g (z_at σ5 (z_r σ5 r0 2) 20 (z_i σ5 r0 0) && Nat.ble 10 (z_r σ5 r0 2)) (z_x (z_ui σ5 (z_r σ5 r0 2) (z_i σ5 r0 0).toNatClampNeg x2) (fun σ6 =>
        z_g (z_kd σ6 r0 == 4) (z_g (z_kd σ6 r0 == 4) (z_x (z_ui σ6 r0 0 ((z_i σ6 r0 0) + (1 : Int32))) (fun σ7 =>
        z_g (z_kd σ7 r0 == 4) (some (vi ((z_i σ7 r0 0) - (1 : Int32)), σ7)))))))))))))
      else
        some (vi (-1 : Int32), σ3)))) := (z_w_eq _ _ _ _ _ _).trans rfl
set_option maxRecDepth 100000 in
theorem e_B_seat (d : Nat) (r0 : Nat) (x1 : Int32) (x2 : Int32) (σ : ZM) : z_call (d + 1) 18 [vr r0, vi x1, vi x2] σ =
  z_g (z_kd σ r0 == 11) (z_g (z_kd σ (z_r σ r0 0) == 4) (z_bI (z_call d 17 [vr (z_r σ r0 0), vi x1, vi x2] σ) (fun v2 σ1 =>
  some (vi v2, σ1)))) := (z_w_eq _ _ _ _ _ _).trans rfl
set_option maxRecDepth 100000 in
theorem e_M_isIn (d : Nat) (x0 : Int32) (x1 : Int32) (x2 : Int32) (σ : ZM) : z_call (d + 1) 19 [vi x0, vi x1, vi x2] σ =
  if x0 < x1 then
    some (vi (0 : Int32), σ)
  else
    if x2 < x0 then
      some (vi (0 : Int32), σ)
    else
      some (vi (1 : Int32), σ) := (z_w_eq _ _ _ _ _ _).trans rfl
set_option maxRecDepth 100000 in
theorem e_M_seat (d : Nat) (r0 : Nat) (x1 : Int32) (x2 : Int32) (σ : ZM) : z_call (d + 1) 20 [vr r0, vi x1, vi x2] σ =
  z_bI (z_call d 19 [vi x1, vi (0 : Int32), vi (3 : Int32)] σ) (fun v2 σ1 =>
  if v2 = 0 then
    some (vi (-1 : Int32), σ1)
  else
    z_bI (z_call d 19 [vi x2, vi (0 : Int32), vi (9 : Int32)] σ1) (fun v4 σ3 =>
    if v4 = 0 then
      some (vi (-1 : Int32), σ3)
    else
      z_g (z_kd σ3 r0 == 12) (z_g (z_at σ3 (z_r σ3 r0 0) 20 (0 : Int32)) (if (z_i σ3 (z_r σ3 r0 0) (0 : Int32).toNatClampNeg) = (10 : Int32) then
        some (vi (-1 : Int32), σ3)
      else
        z_g (z_kd σ3 r0 == 12) (z_g (z_kd σ3 r0 == 12) (z_g (z_at σ3 (z_r σ3 r0 0) 20 (0 : Int32)) (z_g (z_at σ3 (z_r σ3 r0 0) 20 ((12 : Int32) + ((2 : Int32) * (z_i σ3 (z_r σ3 r0 0) (0 : Int32).toNatClampNeg))) && Nat.ble 10 (z_r σ3 r0 0)) (z_x (z_ui σ3 (z_r σ3 r0 0) ((12 : Int32) + ((2 : Int32) * (z_i σ3 (z_r σ3 r0 0) (0 : Int32).toNatClampNeg))).toNatClampNeg x1) (fun σ5 =>
        z_g (z_kd σ5 r0 == 12) (z_g (z_kd σ5 r0 == 12) (z_g (z_at σ5 (z_r σ5 r0 0) 20 (0 : Int32)) (z_g (z_at σ5 (z_r σ5 r0 0) 20 (((12 : Int32) + ((2 : Int32) * (z_i σ5 (z_r σ5 r0 0) (0 : Int32).toNatClampNeg))) + (1 : Int32)) && Nat.ble 10 (z_r σ5 r0 0)) (z_x (z_ui σ5 (z_r σ5 r0 0) (((12 : Int32) + ((2 : Int32) * (z_i σ5 (z_r σ5 r0 0) (0 : Int32).toNatClampNeg))) + (1 : Int32)).toNatClampNeg x2) (fun σ6 =>
        z_g (z_kd σ6 r0 == 12) (z_x (z_r σ6 r0 0) (fun u7 => z_g (z_at σ6 u7 20 (0 : Int32)) (z_g (z_at σ6 u7 20 (0 : Int32) && Nat.ble 10 u7) (z_x (z_ui σ6 u7 (0 : Int32).toNatClampNeg ((z_i σ6 u7 (0 : Int32).toNatClampNeg) + (1 : Int32))) (fun σ8 =>
        z_g (z_kd σ8 r0 == 12) (z_g (z_at σ8 (z_r σ8 r0 0) 20 (0 : Int32)) (some (vi ((z_i σ8 (z_r σ8 r0 0) (0 : Int32).toNatClampNeg) - (1 : Int32)), σ8)))))))))))))))))))))) := (z_w_eq _ _ _ _ _ _).trans rfl
set_option maxRecDepth 100000 in
theorem e_H_addPerson (d : Nat) (r0 : Nat) (x1 : Int32) (x2 : Int32) (x3 : Int32) (σ : ZM) : z_call (d + 1) 21 [vr r0, vi x1, vi x2, vi x3] σ =
  z_bI (z_call d 16 [vi x1, vi (1 : Int32), vi (9 : Int32)] σ) (fun v2 σ1 =>
  if v2 = 0 then
    some (vi (-1 : Int32), σ1)
  else
    z_bI (z_call d 16 [vi x2, vi (1 : Int32), vi (9 : Int32)] σ1) (fun v4 σ3 =>
    if v4 = 0 then
      some (vi (-1 : Int32), σ3)
    else
      z_bI (z_call d 16 [vi x3, vi (0 : Int32), vi (17 : Int32)] σ3) (fun v6 σ5 =>
      if v6 = 0 then
        some (vi (-1 : Int32), σ5)
      else
        z_g (z_kd σ5 r0 == 4) (if (z_i σ5 r0 3) < (10 : Int32) then
          z_g (z_kd σ5 r0 == 4) (z_g (z_kd σ5 r0 == 4) (z_g (z_at σ5 (z_r σ5 r0 4) 20 (z_i σ5 r0 3) && Nat.ble 10 (z_r σ5 r0 4)) (z_x (z_ui σ5 (z_r σ5 r0 4) (z_i σ5 r0 3).toNatClampNeg x1) (fun σ7 =>
          z_g (z_kd σ7 r0 == 4) (z_g (z_kd σ7 r0 == 4) (z_g (z_at σ7 (z_r σ7 r0 5) 20 (z_i σ7 r0 3) && Nat.ble 10 (z_r σ7 r0 5)) (z_x (z_ui σ7 (z_r σ7 r0 5) (z_i σ7 r0 3).toNatClampNeg x2) (fun σ8 =>
          z_g (z_kd σ8 r0 == 4) (z_g (z_kd σ8 r0 == 4) (z_g (z_at σ8 (z_r σ8 r0 6) 20 (z_i σ8 r0 3) && Nat.ble 10 (z_r σ8 r0 6)) (z_x (z_ui σ8 (z_r σ8 r0 6) (z_i σ8 r0 3).toNatClampNeg x3) (fun σ9 =>
          z_g (z_kd σ9 r0 == 4) (z_g (z_kd σ9 r0 == 4) (z_x (z_ui σ9 r0 3 ((z_i σ9 r0 3) + (1 : Int32))) (fun σ10 =>
          z_g (z_kd σ10 r0 == 4) (some (vi ((z_i σ10 r0 3) - (1 : Int32)), σ10)))))))))))))))))
        else
          some (vi (-1 : Int32), σ5))))) := (z_w_eq _ _ _ _ _ _).trans rfl
set_option maxRecDepth 100000 in
theorem e_B_person (d : Nat) (r0 : Nat) (x1 : Int32) (x2 : Int32) (x3 : Int32) (σ : ZM) : z_call (d + 1) 22 [vr r0, vi x1, vi x2, vi x3] σ =
  z_g (z_kd σ r0 == 11) (z_g (z_kd σ (z_r σ r0 0) == 4) (z_bI (z_call d 21 [vr (z_r σ r0 0), vi x1, vi x2, vi x3] σ) (fun v2 σ1 =>
  some (vi v2, σ1)))) := (z_w_eq _ _ _ _ _ _).trans rfl
set_option maxRecDepth 100000 in
theorem e_M_set (d : Nat) (r0 : Nat) (x1 : Int32) (x2 : Int32) (x3 : Int32) (σ : ZM) : z_call (d + 1) 23 [vr r0, vi x1, vi x2, vi x3] σ =
  z_g (z_kd σ r0 == 12) (z_g (z_at σ (z_r σ r0 0) 20 (((32 : Int32) + ((5 : Int32) * x1)) + x2) && Nat.ble 10 (z_r σ r0 0)) (z_x (z_ui σ (z_r σ r0 0) (((32 : Int32) + ((5 : Int32) * x1)) + x2).toNatClampNeg x3) (fun σ1 =>
  some (vi 0, σ1)))) := (z_w_eq _ _ _ _ _ _).trans rfl
set_option maxRecDepth 100000 in
theorem e_M_person (d : Nat) (r0 : Nat) (x1 : Int32) (x2 : Int32) (x3 : Int32) (σ : ZM) : z_call (d + 1) 24 [vr r0, vi x1, vi x2, vi x3] σ =
  z_bI (z_call d 19 [vi x1, vi (1 : Int32), vi (9 : Int32)] σ) (fun v2 σ1 =>
  if v2 = 0 then
    some (vi (-1 : Int32), σ1)
  else
    z_bI (z_call d 19 [vi x2, vi (1 : Int32), vi (9 : Int32)] σ1) (fun v4 σ3 =>
    if v4 = 0 then
      some (vi (-1 : Int32), σ3)
    else
      z_bI (z_call d 19 [vi x3, vi (0 : Int32), vi (17 : Int32)] σ3) (fun v6 σ5 =>
      if v6 = 0 then
        some (vi (-1 : Int32), σ5)
      else
        z_g (z_kd σ5 r0 == 12) (z_g (z_at σ5 (z_r σ5 r0 0) 20 (1 : Int32)) (if (z_i σ5 (z_r σ5 r0 0) (1 : Int32).toNatClampNeg) = (10 : Int32) then
          some (vi (-1 : Int32), σ5)
        else
          z_g (z_kd σ5 r0 == 12) (z_g (z_at σ5 (z_r σ5 r0 0) 20 (1 : Int32)) (z_x (z_i σ5 (z_r σ5 r0 0) (1 : Int32).toNatClampNeg) (fun u7 => z_g (z_kd σ5 r0 == 12) (z_bV (z_call d 23 [vr r0, vi u7, vi (0 : Int32), vi x1] σ5) (fun σ8 =>
          z_g (z_kd σ8 r0 == 12) (z_bV (z_call d 23 [vr r0, vi u7, vi (1 : Int32), vi x2] σ8) (fun σ9 =>
          z_g (z_kd σ9 r0 == 12) (z_bV (z_call d 23 [vr r0, vi u7, vi (2 : Int32), vi x3] σ9) (fun σ10 =>
          z_g (z_kd σ10 r0 == 12) (z_bV (z_call d 23 [vr r0, vi u7, vi (3 : Int32), vi (-1 : Int32)] σ10) (fun σ11 =>
          z_g (z_kd σ11 r0 == 12) (z_bV (z_call d 23 [vr r0, vi u7, vi (4 : Int32), vi (0 : Int32)] σ11) (fun σ12 =>
          z_g (z_kd σ12 r0 == 12) (z_x (z_r σ12 r0 0) (fun u13 => z_g (z_at σ12 u13 20 (1 : Int32)) (z_g (z_at σ12 u13 20 (1 : Int32) && Nat.ble 10 u13) (z_x (z_ui σ12 u13 (1 : Int32).toNatClampNeg ((z_i σ12 u13 (1 : Int32).toNatClampNeg) + (1 : Int32))) (fun σ14 =>
          some (vi u7, σ14)))))))))))))))))))))))) := (z_w_eq _ _ _ _ _ _).trans rfl
set_option maxRecDepth 100000 in
theorem e_H_addNote (d : Nat) (r0 : Nat) (x1 : Int32) (x2 : Int32) (σ : ZM) : z_call (d + 1) 25 [vr r0, vi x1, vi x2] σ =
  z_bI (z_call d 16 [vi x1, vi (0 : Int32), vi (9999 : Int32)] σ) (fun v2 σ1 =>
  if v2 = 0 then
    some (vi (-1 : Int32), σ1)
  else
    z_bI (z_call d 16 [vi x2, vi (0 : Int32), vi (99 : Int32)] σ1) (fun v4 σ3 =>
    if v4 = 0 then
      some (vi (-1 : Int32), σ3)
    else
      z_g (z_kd σ3 r0 == 4) (if (z_i σ3 r0 7) < (12 : Int32) then
        z_g (z_kd σ3 r0 == 4) (z_g (z_kd σ3 r0 == 4) (z_g (z_at σ3 (z_r σ3 r0 8) 20 (z_i σ3 r0 7) && Nat.ble 10 (z_r σ3 r0 8)) (z_x (z_ui σ3 (z_r σ3 r0 8) (z_i σ3 r0 7).toNatClampNeg x1) (fun σ5 =>
        z_g (z_kd σ5 r0 == 4) (z_g (z_kd σ5 r0 == 4) (z_g (z_at σ5 (z_r σ5 r0 9) 20 (z_i σ5 r0 7) && Nat.ble 10 (z_r σ5 r0 9)) (z_x (z_ui σ5 (z_r σ5 r0 9) (z_i σ5 r0 7).toNatClampNeg x2) (fun σ6 =>
        z_g (z_kd σ6 r0 == 4) (z_g (z_kd σ6 r0 == 4) (z_x (z_ui σ6 r0 7 ((z_i σ6 r0 7) + (1 : Int32))) (fun σ7 =>
        z_g (z_kd σ7 r0 == 4) (some (vi ((z_i σ7 r0 7) - (1 : Int32)), σ7)))))))))))))
      else
        some (vi (-1 : Int32), σ3)))) := (z_w_eq _ _ _ _ _ _).trans rfl
set_option maxRecDepth 100000 in
theorem e_B_note (d : Nat) (r0 : Nat) (x1 : Int32) (x2 : Int32) (σ : ZM) : z_call (d + 1) 26 [vr r0, vi x1, vi x2] σ =
  z_g (z_kd σ r0 == 11) (z_g (z_kd σ (z_r σ r0 0) == 4) (z_bI (z_call d 25 [vr (z_r σ r0 0), vi x1, vi x2] σ) (fun v2 σ1 =>
  some (vi v2, σ1)))) := (z_w_eq _ _ _ _ _ _).trans rfl
set_option maxRecDepth 100000 in
theorem e_M_note (d : Nat) (r0 : Nat) (x1 : Int32) (x2 : Int32) (σ : ZM) : z_call (d + 1) 27 [vr r0, vi x1, vi x2] σ =
  z_bI (z_call d 19 [vi x1, vi (0 : Int32), vi (9999 : Int32)] σ) (fun v2 σ1 =>
  if v2 = 0 then
    some (vi (-1 : Int32), σ1)
  else
    z_bI (z_call d 19 [vi x2, vi (0 : Int32), vi (99 : Int32)] σ1) (fun v4 σ3 =>
    if v4 = 0 then
      some (vi (-1 : Int32), σ3)
    else
      z_g (z_kd σ3 r0 == 12) (z_g (z_at σ3 (z_r σ3 r0 0) 20 (2 : Int32)) (if (z_i σ3 (z_r σ3 r0 0) (2 : Int32).toNatClampNeg) = (12 : Int32) then
        some (vi (-1 : Int32), σ3)
      else
        z_g (z_kd σ3 r0 == 12) (z_g (z_kd σ3 r0 == 12) (z_g (z_at σ3 (z_r σ3 r0 0) 20 (2 : Int32)) (z_g (z_at σ3 (z_r σ3 r0 0) 20 ((82 : Int32) + ((2 : Int32) * (z_i σ3 (z_r σ3 r0 0) (2 : Int32).toNatClampNeg))) && Nat.ble 10 (z_r σ3 r0 0)) (z_x (z_ui σ3 (z_r σ3 r0 0) ((82 : Int32) + ((2 : Int32) * (z_i σ3 (z_r σ3 r0 0) (2 : Int32).toNatClampNeg))).toNatClampNeg x1) (fun σ5 =>
        z_g (z_kd σ5 r0 == 12) (z_g (z_kd σ5 r0 == 12) (z_g (z_at σ5 (z_r σ5 r0 0) 20 (2 : Int32)) (z_g (z_at σ5 (z_r σ5 r0 0) 20 (((82 : Int32) + ((2 : Int32) * (z_i σ5 (z_r σ5 r0 0) (2 : Int32).toNatClampNeg))) + (1 : Int32)) && Nat.ble 10 (z_r σ5 r0 0)) (z_x (z_ui σ5 (z_r σ5 r0 0) (((82 : Int32) + ((2 : Int32) * (z_i σ5 (z_r σ5 r0 0) (2 : Int32).toNatClampNeg))) + (1 : Int32)).toNatClampNeg x2) (fun σ6 =>
        z_g (z_kd σ6 r0 == 12) (z_x (z_r σ6 r0 0) (fun u7 => z_g (z_at σ6 u7 20 (2 : Int32)) (z_g (z_at σ6 u7 20 (2 : Int32) && Nat.ble 10 u7) (z_x (z_ui σ6 u7 (2 : Int32).toNatClampNeg ((z_i σ6 u7 (2 : Int32).toNatClampNeg) + (1 : Int32))) (fun σ8 =>
        z_g (z_kd σ8 r0 == 12) (z_g (z_at σ8 (z_r σ8 r0 0) 20 (2 : Int32)) (some (vi ((z_i σ8 (z_r σ8 r0 0) (2 : Int32).toNatClampNeg) - (1 : Int32)), σ8)))))))))))))))))))))) := (z_w_eq _ _ _ _ _ _).trans rfl
set_option maxRecDepth 100000 in
theorem e_B_putBytes (d : Nat) (r0 : Nat) (x1 : Int32) (σ : ZM) : z_call (d + 1) 28 [vr r0, vi x1] σ =
  z_w d_B_putBytes (z_call d) 3 [some (vr r0), some (vi x1), some (vi (24 : Int32))] [] σ := (z_w_eq _ _ _ _ _ _).trans rfl
set_option maxRecDepth 100000 in
theorem e_B_putBytes_3 (cl : Nat → List ZV → ZM → ZR) (r0 : Nat) (x1 : Int32) (x2 : Int32) (σ : ZM) : z_w d_B_putBytes cl 3 [some (vr r0), some (vi x1), some (vi x2)] [] σ =
  if x2 < 0 then
    some (vi 0, σ)
  else
    z_g (z_kd σ r0 == 11) (if (z_i σ r0 9) < (300 : Int32) then
      z_g (z_kd σ r0 == 11) (z_g (z_kd σ r0 == 11) (z_g ((z_at σ (z_r σ r0 8) 21 (z_i σ r0 9) || z_at σ (z_r σ r0 8) 22 (z_i σ r0 9)) && Nat.ble 10 (z_r σ r0 8)) (z_x (z_ui σ (z_r σ r0 8) (z_i σ r0 9).toNatClampNeg (z_bv σ (z_r σ r0 8) ((x1 >>> (x2 &&& 31)).toInt8.toInt32))) (fun σ1 =>
      z_g (z_kd σ1 r0 == 11) (z_g (z_kd σ1 r0 == 11) (z_x (z_ui σ1 r0 9 ((z_i σ1 r0 9) + (1 : Int32))) (fun σ2 =>
      z_w d_B_putBytes cl 3 [some (vr r0), some (vi x1), some (vi (x2 + (-8 : Int32)))] [] σ2)))))))
    else
      some (vi 0, σ)) := (z_w_eq _ _ _ _ _ _).trans rfl
set_option maxRecDepth 100000 in
theorem e_B_feed (d : Nat) (r0 : Nat) (x1 : Int32) (x2 : Int32) (x3 : Int32) (x4 : Int32) (x5 : Int32) (σ : ZM) : z_call (d + 1) 29 [vr r0, vi x1, vi x2, vi x3, vi x4, vi x5] σ =
  z_g (z_kd σ r0 == 11) (if (280 : Int32) < (z_i σ r0 9) then
    some (vi (-1 : Int32), σ)
  else
    z_g (z_kd σ r0 == 11) (z_bV (z_call d 28 [vr r0, vi x1] σ) (fun σ1 =>
    z_g (z_kd σ1 r0 == 11) (z_bV (z_call d 28 [vr r0, vi x2] σ1) (fun σ2 =>
    z_g (z_kd σ2 r0 == 11) (z_bV (z_call d 28 [vr r0, vi x3] σ2) (fun σ3 =>
    z_g (z_kd σ3 r0 == 11) (z_bV (z_call d 28 [vr r0, vi x4] σ3) (fun σ4 =>
    z_g (z_kd σ4 r0 == 11) (z_bV (z_call d 28 [vr r0, vi x5] σ4) (fun σ5 =>
    z_g (z_kd σ5 r0 == 11) (some (vi (z_i σ5 r0 9), σ5))))))))))))) := (z_w_eq _ _ _ _ _ _).trans rfl
set_option maxRecDepth 100000 in
theorem e_M_four (d : Nat) (r0 : Nat) (x1 : Int32) (σ : ZM) : z_call (d + 1) 30 [vr r0, vi x1] σ =
  z_w d_M_four (z_call d) 3 [some (vr r0), some (vi x1), some (vi (24 : Int32))] [] σ := (z_w_eq _ _ _ _ _ _).trans rfl
set_option maxRecDepth 100000 in
theorem e_M_four_3 (cl : Nat → List ZV → ZM → ZR) (r0 : Nat) (x1 : Int32) (x2 : Int32) (σ : ZM) : z_w d_M_four cl 3 [some (vr r0), some (vi x1), some (vi x2)] [] σ =
  if x2 < 0 then
    some (vi 0, σ)
  else
    z_g (z_kd σ r0 == 12) (z_g (z_kd σ r0 == 12) (z_g (z_at σ (z_r σ r0 3) 20 (z_i σ r0 4) && Nat.ble 10 (z_r σ r0 3)) (z_x (z_ui σ (z_r σ r0 3) (z_i σ r0 4).toNatClampNeg ((x1 >>> (x2 &&& 31)) &&& (255 : Int32))) (fun σ1 =>
    z_g (z_kd σ1 r0 == 12) (z_g (z_kd σ1 r0 == 12) (z_x (z_ui σ1 r0 4 ((z_i σ1 r0 4) + (1 : Int32))) (fun σ2 =>
    z_w d_M_four cl 3 [some (vr r0), some (vi x1), some (vi (x2 + (-8 : Int32)))] [] σ2))))))) := (z_w_eq _ _ _ _ _ _).trans rfl
set_option maxRecDepth 100000 in
theorem e_M_feed (d : Nat) (r0 : Nat) (x1 : Int32) (x2 : Int32) (x3 : Int32) (x4 : Int32) (x5 : Int32) (σ : ZM) : z_call (d + 1) 31 [vr r0, vi x1, vi x2, vi x3, vi x4, vi x5] σ =
  z_g (z_kd σ r0 == 12) (if (300 : Int32) < ((z_i σ r0 4) + (20 : Int32)) then
    some (vi (-1 : Int32), σ)
  else
    z_g (z_kd σ r0 == 12) (z_bV (z_call d 30 [vr r0, vi x1] σ) (fun σ1 =>
    z_g (z_kd σ1 r0 == 12) (z_bV (z_call d 30 [vr r0, vi x2] σ1) (fun σ2 =>
    z_g (z_kd σ2 r0 == 12) (z_bV (z_call d 30 [vr r0, vi x3] σ2) (fun σ3 =>
    z_g (z_kd σ3 r0 == 12) (z_bV (z_call d 30 [vr r0, vi x4] σ3) (fun σ4 =>
    z_g (z_kd σ4 r0 == 12) (z_bV (z_call d 30 [vr r0, vi x5] σ4) (fun σ5 =>
    z_g (z_kd σ5 r0 == 12) (some (vi (z_i σ5 r0 4), σ5))))))))))))) := (z_w_eq _ _ _ _ _ _).trans rfl
set_option maxRecDepth 100000 in
theorem e_B_end (d : Nat) (r0 : Nat) (x1 : Int32) (σ : ZM) : z_call (d + 1) 32 [vr r0, vi x1] σ =
  if x1 < 0 then
    some (vi (-1 : Int32), σ)
  else
    z_g (z_kd σ r0 == 11) (if (z_i σ r0 9) < x1 then
      some (vi (-1 : Int32), σ)
    else
      z_g (z_kd σ r0 == 11) (z_x (z_ui σ r0 9 x1) (fun σ1 =>
      some (vi x1, σ1)))) := (z_w_eq _ _ _ _ _ _).trans rfl
set_option maxRecDepth 100000 in
theorem e_M_end (d : Nat) (r0 : Nat) (x1 : Int32) (σ : ZM) : z_call (d + 1) 33 [vr r0, vi x1] σ =
  z_g (z_kd σ r0 == 12) (z_bI (z_call d 19 [vi x1, vi (0 : Int32), vi (z_i σ r0 4)] σ) (fun v2 σ1 =>
  if v2 = 0 then
    some (vi (-1 : Int32), σ1)
  else
    z_g (z_kd σ1 r0 == 12) (z_x (z_ui σ1 r0 4 x1) (fun σ3 =>
    some (vi x1, σ3))))) := (z_w_eq _ _ _ _ _ _).trans rfl
set_option maxRecDepth 100000 in
theorem e_Ma_min_II (d : Nat) (x0 : Int32) (x1 : Int32) (σ : ZM) : z_call (d + 1) 34 [vi x0, vi x1] σ =
  if x1 < x0 then
    some (vi x1, σ)
  else
    some (vi x0, σ) := (z_w_eq _ _ _ _ _ _).trans rfl
set_option maxRecDepth 100000 in
theorem e_Re_isLetter (d : Nat) (x0 : Int32) (σ : ZM) : z_call (d + 1) 35 [vi x0] σ =
  if x0 < (97 : Int32) then
    if x0 < (65 : Int32) then
      some (vi (0 : Int32), σ)
    else
      if (90 : Int32) < x0 then
        some (vi (0 : Int32), σ)
      else
        some (vi (1 : Int32), σ)
  else
    if (122 : Int32) < x0 then
      if x0 < (65 : Int32) then
        some (vi (0 : Int32), σ)
      else
        if (90 : Int32) < x0 then
          some (vi (0 : Int32), σ)
        else
          some (vi (1 : Int32), σ)
    else
      some (vi (1 : Int32), σ) := (z_w_eq _ _ _ _ _ _).trans rfl
set_option maxRecDepth 100000 in
theorem e_Re_isDigit (d : Nat) (x0 : Int32) (σ : ZM) : z_call (d + 1) 36 [vi x0] σ =
  if x0 < (48 : Int32) then
    some (vi (0 : Int32), σ)
  else
    if (57 : Int32) < x0 then
      some (vi (0 : Int32), σ)
    else
      some (vi (1 : Int32), σ) := (z_w_eq _ _ _ _ _ _).trans rfl
set_option maxRecDepth 100000 in
theorem e_Re_endOfToken (d : Nat) (r0 : Nat) (x1 : Int32) (x2 : Int32) (σ : ZM) : z_call (d + 1) 37 [vr r0, vi x1, vi x2] σ =
  z_x (x1 + (1 : Int32)) (fun u1 => z_g (z_at σ r0 21 x1 || z_at σ r0 22 x1) (z_bI (z_call d 35 [vi (z_i σ r0 x1.toNatClampNeg)] σ) (fun v3 σ2 =>
  if v3 = 0 then
    z_g (z_at σ2 r0 21 x1 || z_at σ2 r0 22 x1) (z_bI (z_call d 36 [vi (z_i σ2 r0 x1.toNatClampNeg)] σ2) (fun v5 σ4 =>
    if v5 = 0 then
      z_g (z_at σ4 r0 21 x1 || z_at σ4 r0 22 x1) (if (z_i σ4 r0 x1.toNatClampNeg) = (60 : Int32) then
        if u1 < x2 then
          z_g (z_at σ4 r0 21 u1 || z_at σ4 r0 22 u1) (if (z_i σ4 r0 u1.toNatClampNeg) = (61 : Int32) then
            z_x (u1 + (1 : Int32)) (fun u6 => some (vi u6, σ4))
          else
            some (vi u1, σ4))
        else
          some (vi u1, σ4)
      else
        z_g (z_at σ4 r0 21 x1 || z_at σ4 r0 22 x1) (if (z_i σ4 r0 x1.toNatClampNeg) = (62 : Int32) then
          if u1 < x2 then
            z_g (z_at σ4 r0 21 u1 || z_at σ4 r0 22 u1) (if (z_i σ4 r0 u1.toNatClampNeg) = (61 : Int32) then
              z_x (u1 + (1 : Int32)) (fun u7 => some (vi u7, σ4))
            else
              some (vi u1, σ4))
          else
            some (vi u1, σ4)
        else
          some (vi u1, σ4)))
    else
      z_w d_Re_endOfToken (z_call d) 42 [some (vr r0), none, some (vi x2), some (vi u1)] [] σ4))
  else
    z_w d_Re_endOfToken (z_call d) 13 [some (vr r0), none, some (vi x2), some (vi u1)] [] σ2))) := (z_w_eq _ _ _ _ _ _).trans rfl
set_option maxRecDepth 100000 in
theorem e_Re_endOfToken_13 (cl : Nat → List ZV → ZM → ZR) (r0 : Nat) (x2 : Int32) (x3 : Int32) (σ : ZM) : z_w d_Re_endOfToken cl 13 [some (vr r0), none, some (vi x2), some (vi x3)] [] σ =
  if x3 < x2 then
    z_g (z_at σ r0 21 x3 || z_at σ r0 22 x3) (z_bI (cl 35 [vi (z_i σ r0 x3.toNatClampNeg)] σ) (fun v2 σ1 =>
    if v2 = 0 then
      some (vi x3, σ1)
    else
      z_w d_Re_endOfToken cl 13 [some (vr r0), none, some (vi x2), some (vi (x3 + (1 : Int32)))] [] σ1))
  else
    some (vi x3, σ) := (z_w_eq _ _ _ _ _ _).trans rfl
set_option maxRecDepth 100000 in
theorem e_Re_endOfToken_42 (cl : Nat → List ZV → ZM → ZR) (r0 : Nat) (x2 : Int32) (x3 : Int32) (σ : ZM) : z_w d_Re_endOfToken cl 42 [some (vr r0), none, some (vi x2), some (vi x3)] [] σ =
  if x3 < x2 then
    z_g (z_at σ r0 21 x3 || z_at σ r0 22 x3) (z_bI (cl 36 [vi (z_i σ r0 x3.toNatClampNeg)] σ) (fun v2 σ1 =>
    if v2 = 0 then
      some (vi x3, σ1)
    else
      z_w d_Re_endOfToken cl 42 [some (vr r0), none, some (vi x2), some (vi (x3 + (1 : Int32)))] [] σ1))
  else
    some (vi x3, σ) := (z_w_eq _ _ _ _ _ _).trans rfl
set_option maxRecDepth 100000 in
theorem e_Sg_coder (d : Nat) (r0 : Nat) (σ : ZM) : z_call (d + 1) 38 [vr r0] σ =
  if (1 : Int32) = 0 then
    some (vi (1 : Int32), σ)
  else
    z_g (z_kd σ r0 == 13) (z_g (z_fit 6 (z_i σ r0 1)) (some (vi (z_i σ r0 1), σ))) := (z_w_eq _ _ _ _ _ _).trans rfl
set_option maxRecDepth 100000 in
theorem e_Sg_length (d : Nat) (r0 : Nat) (σ : ZM) : z_call (d + 1) 39 [vr r0] σ =
  z_g (z_kd σ r0 == 13) (z_g (Nat.ble 20 (z_kd σ (z_r σ r0 0)) && Nat.ble (z_kd σ (z_r σ r0 0)) 24) (z_g (z_kd σ r0 == 13) (z_bI (z_call d 38 [vr r0] σ) (fun v2 σ1 =>
  some (vi ((nI (z_ln σ (z_r σ r0 0))) >>> (v2 &&& 31)), σ1))))) := (z_w_eq _ _ _ _ _ _).trans rfl
set_option maxRecDepth 100000 in
theorem e_Sg_isLatin1 (d : Nat) (r0 : Nat) (σ : ZM) : z_call (d + 1) 40 [vr r0] σ =
  if (1 : Int32) = 0 then
    some (vi (0 : Int32), σ)
  else
    z_g (z_kd σ r0 == 13) (if (z_i σ r0 1) = 0 then
      some (vi (1 : Int32), σ)
    else
      some (vi (0 : Int32), σ)) := (z_w_eq _ _ _ _ _ _).trans rfl
set_option maxRecDepth 100000 in
theorem e_Pr_checkIndex (d : Nat) (x0 : Int32) (x1 : Int32) (r2 : Nat) (σ : ZM) : z_call (d + 1) 41 [vi x0, vi x1, vr r2] σ =
  if x0 < 0 then
    none
  else
    if x0 < x1 then
      some (vi x0, σ)
    else
      none := (z_w_eq _ _ _ _ _ _).trans rfl
set_option maxRecDepth 100000 in
theorem e_Sg_checkIndex (d : Nat) (x0 : Int32) (x1 : Int32) (σ : ZM) : z_call (d + 1) 42 [vi x0, vi x1] σ =
  z_bI (z_call d 41 [vi x0, vi x1, vr 9] σ) (fun v2 σ1 =>
  some (vi 0, σ1)) := (z_w_eq _ _ _ _ _ _).trans rfl
set_option maxRecDepth 100000 in
theorem e_Sl_charAt (d : Nat) (r0 : Nat) (x1 : Int32) (σ : ZM) : z_call (d + 1) 43 [vr r0, vi x1] σ =
  z_g (Nat.ble 20 (z_kd σ r0) && Nat.ble (z_kd σ r0) 24) (z_bV (z_call d 42 [vi x1, vi (nI (z_ln σ r0))] σ) (fun σ1 =>
  z_g (z_at σ1 r0 21 x1 || z_at σ1 r0 22 x1) (z_g (z_fit 5 ((((z_i σ1 r0 x1.toNatClampNeg) &&& (255 : Int32)).toUInt32 % 65536).toInt32)) (some (vi ((((z_i σ1 r0 x1.toNatClampNeg) &&& (255 : Int32)).toUInt32 % 65536).toInt32), σ1))))) := (z_w_eq _ _ _ _ _ _).trans rfl
set_option maxRecDepth 100000 in
theorem e_Sg_charAt (d : Nat) (r0 : Nat) (x1 : Int32) (σ : ZM) : z_call (d + 1) 44 [vr r0, vi x1] σ =
  z_g (z_kd σ r0 == 13) (z_bI (z_call d 40 [vr r0] σ) (fun v2 σ1 =>
  if v2 = 0 then
    z_g (z_kd σ1 r0 == 13) (none)
  else
    z_g (z_kd σ1 r0 == 13) (z_bI (z_call d 43 [vr (z_r σ1 r0 0), vi x1] σ1) (fun v4 σ3 =>
    z_g (z_fit 5 v4) (some (vi v4, σ3)))))) := (z_w_eq _ _ _ _ _ _).trans rfl
set_option maxRecDepth 100000 in
theorem e_Re_wordOf (d : Nat) (r0 : Nat) (x1 : Int32) (x2 : Int32) (σ : ZM) : z_call (d + 1) 45 [vr r0, vi x1, vi x2] σ =
  z_w d_Re_wordOf (z_call d) 9 [some (vr r0), some (vi x1), some (vi x2), some (vi (18 : Int32)), some (vi x1), some (vi (0 : Int32)), none] [] σ := (z_w_eq _ _ _ _ _ _).trans rfl
set_option maxRecDepth 100000 in
theorem e_Re_wordOf_9 (cl : Nat → List ZV → ZM → ZR) (r0 : Nat) (x1 : Int32) (x2 : Int32) (x3 : Int32) (x4 : Int32) (x5 : Int32) (σ : ZM) : z_w d_Re_wordOf cl 9 [some (vr r0), some (vi x1), some (vi x2), some (vi x3), some (vi x4), some (vi x5), none] [] σ =
  z_g (z_kd σ 5 == 13) (z_bI (cl 39 [vr 5] σ) (fun v2 σ1 =>
  if x5 < v2 then
    z_g (z_kd σ1 5 == 13) (z_bI (cl 44 [vr 5, vi x5] σ1) (fun v4 σ3 =>
    if v4 = (32 : Int32) then
      if x4 = x2 then
        some (vi x3, σ3)
      else
        z_x (x3 + (1 : Int32)) (fun u5 => z_w d_Re_wordOf cl 9 [some (vr r0), some (vi x1), some (vi x2), some (vi u5), some (vi x1), some (vi (x5 + (1 : Int32))), none] [] σ3)
    else
      if x4 < x2 then
        z_g (z_at σ3 r0 21 x4 || z_at σ3 r0 22 x4) (if (z_i σ3 r0 x4.toNatClampNeg) = v4 then
          z_x (x4 + (1 : Int32)) (fun u8 => z_w d_Re_wordOf cl 9 [some (vr r0), some (vi x1), some (vi x2), some (vi x3), some (vi u8), some (vi (x5 + (1 : Int32))), none] [] σ3)
        else
          z_x (x2 + (1 : Int32)) (fun u7 => z_w d_Re_wordOf cl 9 [some (vr r0), some (vi x1), some (vi x2), some (vi x3), some (vi u7), some (vi (x5 + (1 : Int32))), none] [] σ3))
      else
        z_x (x2 + (1 : Int32)) (fun u6 => z_w d_Re_wordOf cl 9 [some (vr r0), some (vi x1), some (vi x2), some (vi x3), some (vi u6), some (vi (x5 + (1 : Int32))), none] [] σ3)))
  else
    some (vi (1 : Int32), σ1))) := (z_w_eq _ _ _ _ _ _).trans rfl
set_option maxRecDepth 100000 in
theorem e_Re_numberOf (d : Nat) (r0 : Nat) (x1 : Int32) (x2 : Int32) (σ : ZM) : z_call (d + 1) 46 [vr r0, vi x1, vi x2] σ =
  z_w d_Re_numberOf (z_call d) 5 [some (vr r0), none, some (vi x2), some (vi (0 : Int32)), some (vi x1)] [] σ := (z_w_eq _ _ _ _ _ _).trans rfl
set_option maxRecDepth 100000 in
theorem e_Re_numberOf_5 (cl : Nat → List ZV → ZM → ZR) (r0 : Nat) (x2 : Int32) (x3 : Int32) (x4 : Int32) (σ : ZM) : z_w d_Re_numberOf cl 5 [some (vr r0), none, some (vi x2), some (vi x3), some (vi x4)] [] σ =
  if x4 < x2 then
    z_g (z_at σ r0 21 x4 || z_at σ r0 22 x4) (z_bI (cl 34 [vi (((x3 * (10 : Int32)) + (z_i σ r0 x4.toNatClampNeg)) - (48 : Int32)), vi (10000 : Int32)] σ) (fun v2 σ1 =>
    z_w d_Re_numberOf cl 5 [some (vr r0), none, some (vi x2), some (vi v2), some (vi (x4 + (1 : Int32)))] [] σ1))
  else
    some (vi x3, σ) := (z_w_eq _ _ _ _ _ _).trans rfl
set_option maxRecDepth 100000 in
theorem e_Sl_canEncode (d : Nat) (x0 : Int32) (σ : ZM) : z_call (d + 1) 47 [vi x0] σ =
  if x0 < 0 then
    some (vi (0 : Int32), σ)
  else
    if (255 : Int32) < x0 then
      some (vi (0 : Int32), σ)
    else
      some (vi (1 : Int32), σ) := (z_w_eq _ _ _ _ _ _).trans rfl
set_option maxRecDepth 100000 in
theorem e_Ma_max_II (d : Nat) (x0 : Int32) (x1 : Int32) (σ : ZM) : z_call (d + 1) 48 [vi x0, vi x1] σ =
  if x0 < x1 then
    some (vi x1, σ)
  else
    some (vi x0, σ) := (z_w_eq _ _ _ _ _ _).trans rfl
set_option maxRecDepth 100000 in
theorem e_Sl_indexOfChar (d : Nat) (r0 : Nat) (x1 : Int32) (x2 : Int32) (x3 : Int32) (σ : ZM) : z_call (d + 1) 49 [vr r0, vi x1, vi x2, vi x3] σ =
  z_x (x1.toInt8.toInt32) (fun u1 => z_w d_Sl_indexOfChar (z_call d) 7 [some (vr r0), none, none, some (vi x3), some (vi u1), some (vi x2)] [] σ) := (z_w_eq _ _ _ _ _ _).trans rfl
set_option maxRecDepth 100000 in
theorem e_Sl_indexOfChar_7 (cl : Nat → List ZV → ZM → ZR) (r0 : Nat) (x3 : Int32) (x4 : Int32) (x5 : Int32) (σ : ZM) : z_w d_Sl_indexOfChar cl 7 [some (vr r0), none, none, some (vi x3), some (vi x4), some (vi x5)] [] σ =
  if x5 < x3 then
    z_g (z_at σ r0 21 x5 || z_at σ r0 22 x5) (if (z_i σ r0 x5.toNatClampNeg) = x4 then
      some (vi x5, σ)
    else
      z_w d_Sl_indexOfChar cl 7 [some (vr r0), none, none, some (vi x3), some (vi x4), some (vi (x5 + (1 : Int32)))] [] σ)
  else
    some (vi (-1 : Int32), σ) := (z_w_eq _ _ _ _ _ _).trans rfl
set_option maxRecDepth 100000 in
theorem e_Sl_indexOf (d : Nat) (r0 : Nat) (x1 : Int32) (x2 : Int32) (x3 : Int32) (σ : ZM) : z_call (d + 1) 50 [vr r0, vi x1, vi x2, vi x3] σ =
  z_bI (z_call d 47 [vi x1] σ) (fun v2 σ1 =>
  if v2 = 0 then
    some (vi (-1 : Int32), σ1)
  else
    z_bI (z_call d 48 [vi x2, vi (0 : Int32)] σ1) (fun v4 σ3 =>
    z_g (Nat.ble 20 (z_kd σ3 r0) && Nat.ble (z_kd σ3 r0) 24) (z_bI (z_call d 34 [vi x3, vi (nI (z_ln σ3 r0))] σ3) (fun v6 σ5 =>
    if v4 < v6 then
      z_bI (z_call d 49 [vr r0, vi x1, vi v4, vi v6] σ5) (fun v8 σ7 =>
      some (vi v8, σ7))
    else
      some (vi (-1 : Int32), σ5))))) := (z_w_eq _ _ _ _ _ _).trans rfl
set_option maxRecDepth 100000 in
theorem e_Sg_indexOf_II (d : Nat) (r0 : Nat) (x1 : Int32) (x2 : Int32) (σ : ZM) : z_call (d + 1) 51 [vr r0, vi x1, vi x2] σ =
  z_g (z_kd σ r0 == 13) (z_bI (z_call d 40 [vr r0] σ) (fun v2 σ1 =>
  if v2 = 0 then
    z_g (z_kd σ1 r0 == 13) (z_g (z_kd σ1 r0 == 13) (z_bI (z_call d 39 [vr r0] σ1) (fun v4 σ3 =>
    none)))
  else
    z_g (z_kd σ1 r0 == 13) (z_g (z_kd σ1 r0 == 13) (z_bI (z_call d 39 [vr r0] σ1) (fun v6 σ5 =>
    z_bI (z_call d 50 [vr (z_r σ1 r0 0), vi x1, vi x2, vi v6] σ5) (fun v8 σ7 =>
    some (vi v8, σ7))))))) := (z_w_eq _ _ _ _ _ _).trans rfl
set_option maxRecDepth 100000 in
theorem e_Sg_indexOf_I (d : Nat) (r0 : Nat) (x1 : Int32) (σ : ZM) : z_call (d + 1) 52 [vr r0, vi x1] σ =
  z_g (z_kd σ r0 == 13) (z_bI (z_call d 51 [vr r0, vi x1, vi (0 : Int32)] σ) (fun v2 σ1 =>
  some (vi v2, σ1))) := (z_w_eq _ _ _ _ _ _).trans rfl
set_option maxRecDepth 100000 in
theorem e_Re_tokenOf (d : Nat) (r0 : Nat) (x1 : Int32) (x2 : Int32) (σ : ZM) : z_call (d + 1) 53 [vr r0, vi x1, vi x2] σ =
  z_g (z_at σ r0 21 x1 || z_at σ r0 22 x1) (z_bI (z_call d 35 [vi (z_i σ r0 x1.toNatClampNeg)] σ) (fun v2 σ1 =>
  if v2 = 0 then
    z_g (z_at σ1 r0 21 x1 || z_at σ1 r0 22 x1) (z_bI (z_call d 36 [vi (z_i σ1 r0 x1.toNatClampNeg)] σ1) (fun v4 σ3 =>
    if v4 = 0 then
      if (x1 + (1 : Int32)) < x2 then
        z_g (z_at σ3 r0 21 x1 || z_at σ3 r0 22 x1) (if (z_i σ3 r0 x1.toNatClampNeg) = (60 : Int32) then
          some (vi (16 : Int32), σ3)
        else
          some (vi (17 : Int32), σ3))
      else
        z_g (z_at σ3 r0 21 x1 || z_at σ3 r0 22 x1) (z_g (z_kd σ3 3 == 13) (z_bI (z_call d 52 [vr 3, vi ((((z_i σ3 r0 x1.toNatClampNeg) &&& (255 : Int32)).toUInt32 % 65536).toInt32)] σ3) (fun v6 σ5 =>
        if v6 < 0 then
          some (vi (1 : Int32), σ5)
        else
          some (vi ((3 : Int32) + v6), σ5))))
    else
      z_bI (z_call d 46 [vr r0, vi x1, vi x2] σ3) (fun v8 σ7 =>
      some (vi ((2 : Int32) + (v8 <<< ((6 : Int32) &&& 31))), σ7))))
  else
    z_bI (z_call d 45 [vr r0, vi x1, vi x2] σ1) (fun v10 σ9 =>
    some (vi v10, σ9)))) := (z_w_eq _ _ _ _ _ _).trans rfl
set_option maxRecDepth 100000 in
theorem e_Re_scan (d : Nat) (r0 : Nat) (r1 : Nat) (x2 : Int32) (σ : ZM) : z_call (d + 1) 54 [vr r0, vr r1, vi x2] σ =
  z_w d_Re_scan (z_call d) 8 [some (vr r0), some (vr r1), some (vi x2), some (vi (0 : Int32)), some (vi (0 : Int32)), some (vi (0 : Int32)), none] [] σ := (z_w_eq _ _ _ _ _ _).trans rfl
set_option maxRecDepth 100000 in
theorem e_Re_scan_8 (cl : Nat → List ZV → ZM → ZR) (r0 : Nat) (r1 : Nat) (x2 : Int32) (x3 : Int32) (x4 : Int32) (x5 : Int32) (σ : ZM) : z_w d_Re_scan cl 8 [some (vr r0), some (vr r1), some (vi x2), some (vi x3), some (vi x4), some (vi x5), none] [] σ =
  if x5 < (300 : Int32) then
    if x4 < x2 then
      z_bI (cl 37 [vr r1, vi x4, vi x2] σ) (fun v6 σ5 =>
      z_g (z_at σ5 r1 21 x4 || z_at σ5 r1 22 x4) (if (z_i σ5 r1 x4.toNatClampNeg) = (32 : Int32) then
        z_w d_Re_scan cl 8 [some (vr r0), some (vr r1), some (vi x2), some (vi x3), some (vi v6), some (vi (x5 + (1 : Int32))), none] [] σ5
      else
        z_g (z_at σ5 r1 21 x4 || z_at σ5 r1 22 x4) (if (z_i σ5 r1 x4.toNatClampNeg) = (10 : Int32) then
          z_w d_Re_scan cl 8 [some (vr r0), some (vr r1), some (vi x2), some (vi x3), some (vi v6), some (vi (x5 + (1 : Int32))), none] [] σ5
        else
          z_g (z_kd σ5 r0 == 7) (z_bI (cl 53 [vr r1, vi x4, vi v6] σ5) (fun v8 σ7 =>
          z_g (z_at σ7 (z_r σ5 r0 0) 20 x3 && Nat.ble 10 (z_r σ5 r0 0)) (z_x (z_ui σ7 (z_r σ5 r0 0) x3.toNatClampNeg v8) (fun σ9 =>
          z_g (z_kd σ9 r0 == 7) (z_g (z_at σ9 (z_r σ9 r0 1) 20 x3 && Nat.ble 10 (z_r σ9 r0 1)) (z_x (z_ui σ9 (z_r σ9 r0 1) x3.toNatClampNeg x4) (fun σ10 =>
          z_x (x3 + (1 : Int32)) (fun u11 => z_w d_Re_scan cl 8 [some (vr r0), some (vr r1), some (vi x2), some (vi u11), some (vi v6), some (vi (x5 + (1 : Int32))), none] [] σ10)))))))))))
    else
      z_g (z_kd σ r0 == 7) (z_g (z_at σ (z_r σ r0 0) 20 x3 && Nat.ble 10 (z_r σ r0 0)) (z_x (z_ui σ (z_r σ r0 0) x3.toNatClampNeg (0 : Int32)) (fun σ3 =>
      z_g (z_kd σ3 r0 == 7) (z_g (z_at σ3 (z_r σ3 r0 1) 20 x3 && Nat.ble 10 (z_r σ3 r0 1)) (z_x (z_ui σ3 (z_r σ3 r0 1) x3.toNatClampNeg x2) (fun σ4 =>
      some (vi 0, σ4)))))))
  else
    z_g (z_kd σ r0 == 7) (z_g (z_at σ (z_r σ r0 0) 20 x3 && Nat.ble 10 (z_r σ r0 0)) (z_x (z_ui σ (z_r σ r0 0) x3.toNatClampNeg (0 : Int32)) (fun σ1 =>
    z_g (z_kd σ1 r0 == 7) (z_g (z_at σ1 (z_r σ1 r0 1) 20 x3 && Nat.ble 10 (z_r σ1 r0 1)) (z_x (z_ui σ1 (z_r σ1 r0 1) x3.toNatClampNeg x2) (fun σ2 =>
    some (vi 0, σ2))))))) := (z_w_eq _ _ _ _ _ _).trans rfl
set_option maxRecDepth 100000 in
theorem e_Re_goTo (d : Nat) (r0 : Nat) (x1 : Int32) (σ : ZM) : z_call (d + 1) 55 [vr r0, vi x1] σ =
  if x1 < 0 then
    some (vi 0, σ)
  else
    z_g (z_kd σ r0 == 7) (z_g (Nat.ble 20 (z_kd σ (z_r σ r0 0)) && Nat.ble (z_kd σ (z_r σ r0 0)) 24) (if x1 < (nI (z_ln σ (z_r σ r0 0))) then
      z_g (z_kd σ r0 == 7) (z_x (z_ui σ r0 2 x1) (fun σ1 =>
      z_g (z_kd σ1 r0 == 7) (z_g (z_at σ1 (z_r σ1 r0 0) 20 x1) (z_g (z_kd σ1 r0 == 7) (z_x (z_ui σ1 r0 3 ((z_i σ1 (z_r σ1 r0 0) x1.toNatClampNeg) &&& (63 : Int32))) (fun σ2 =>
      z_g (z_kd σ2 r0 == 7) (z_g (z_at σ2 (z_r σ2 r0 0) 20 x1) (z_g (z_kd σ2 r0 == 7) (z_x (z_ui σ2 r0 4 ((z_i σ2 (z_r σ2 r0 0) x1.toNatClampNeg) >>> ((6 : Int32) &&& 31))) (fun σ3 =>
      some (vi 0, σ3)))))))))))
    else
      some (vi 0, σ))) := (z_w_eq _ _ _ _ _ _).trans rfl
set_option maxRecDepth 100000 in
theorem e_Re_formOf (d : Nat) (r0 : Nat) (x1 : Int32) (σ : ZM) : z_call (d + 1) 56 [vr r0, vi x1] σ =
  z_w d_Re_formOf (z_call d) 2 [none, some (vi x1), some (vi (0 : Int32))] [] σ := (z_w_eq _ _ _ _ _ _).trans rfl
set_option maxRecDepth 100000 in
theorem e_Re_formOf_2 (cl : Nat → List ZV → ZM → ZR) (x1 : Int32) (x2 : Int32) (σ : ZM) : z_w d_Re_formOf cl 2 [none, some (vi x1), some (vi x2)] [] σ =
  z_g (Nat.ble 20 (z_kd σ 2) && Nat.ble (z_kd σ 2) 24) (if x2 < (nI (z_ln σ 2)) then
    z_g (z_at σ 2 20 x2) (if (z_i σ 2 x2.toNatClampNeg) = x1 then
      some (vi x2, σ)
    else
      z_w d_Re_formOf cl 2 [none, some (vi x1), some (vi (x2 + (9 : Int32)))] [] σ)
  else
    some (vi (-1 : Int32), σ)) := (z_w_eq _ _ _ _ _ _).trans rfl
set_option maxRecDepth 100000 in
theorem e_Re_refuse (d : Nat) (r0 : Nat) (x1 : Int32) (σ : ZM) : z_call (d + 1) 57 [vr r0, vi x1] σ =
  z_g (z_kd σ r0 == 7) (z_x (z_ui σ r0 14 x1) (fun σ1 =>
  z_g (z_kd σ1 r0 == 7) (z_g (z_kd σ1 r0 == 7) (z_g (z_at σ1 (z_r σ1 r0 1) 20 (z_i σ1 r0 2)) (z_g (z_kd σ1 r0 == 7) (z_x (z_ui σ1 r0 15 (z_i σ1 (z_r σ1 r0 1) (z_i σ1 r0 2).toNatClampNeg)) (fun σ2 =>
  some (vi (0 : Int32), σ2)))))))) := (z_w_eq _ _ _ _ _ _).trans rfl
set_option maxRecDepth 100000 in
theorem e_Re_lawOf (d : Nat) (r0 : Nat) (x1 : Int32) (σ : ZM) : z_call (d + 1) 58 [vr r0, vi x1] σ =
  if x1 = (28 : Int32) then
    z_g (z_kd σ r0 == 7) (some (vr (z_r σ r0 8), σ))
  else
    if x1 = (29 : Int32) then
      z_g (z_kd σ r0 == 7) (some (vr (z_r σ r0 9), σ))
    else
      z_g (z_kd σ r0 == 7) (some (vr (z_r σ r0 10), σ)) := (z_w_eq _ _ _ _ _ _).trans rfl
set_option maxRecDepth 100000 in
theorem e_Re_next (d : Nat) (r0 : Nat) (σ : ZM) : z_call (d + 1) 59 [vr r0] σ =
  z_g (z_kd σ r0 == 7) (z_g (z_kd σ r0 == 7) (z_bV (z_call d 55 [vr r0, vi ((z_i σ r0 2) + (1 : Int32))] σ) (fun σ1 =>
  some (vi (1 : Int32), σ1)))) := (z_w_eq _ _ _ _ _ _).trans rfl
set_option maxRecDepth 100000 in
theorem e_Re_expect (d : Nat) (r0 : Nat) (x1 : Int32) (σ : ZM) : z_call (d + 1) 60 [vr r0, vi x1] σ =
  z_g (z_kd σ r0 == 7) (if (z_i σ r0 3) = x1 then
    z_g (z_kd σ r0 == 7) (z_bI (z_call d 59 [vr r0] σ) (fun v4 σ3 =>
    z_g (z_fit 1 v4) (some (vi v4, σ3))))
  else
    z_g (z_kd σ r0 == 7) (z_bI (z_call d 57 [vr r0, vi (1 : Int32)] σ) (fun v2 σ1 =>
    z_g (z_fit 1 v2) (some (vi v2, σ1))))) := (z_w_eq _ _ _ _ _ _).trans rfl
set_option maxRecDepth 100000 in
theorem e_Re_readNumbers (d : Nat) (r0 : Nat) (x1 : Int32) (σ : ZM) : z_call (d + 1) 61 [vr r0, vi x1] σ =
  z_g (z_kd σ r0 == 7) (z_x (((z_i σ r0 12) * (4 : Int32)) + (1 : Int32)) (fun u1 => z_w d_Re_readNumbers (z_call d) 11 [some (vr r0), some (vi x1), some (vi u1), some (vi x1)] [] σ)) := (z_w_eq _ _ _ _ _ _).trans rfl
set_option maxRecDepth 100000 in
theorem e_Re_readNumbers_11 (cl : Nat → List ZV → ZM → ZR) (r0 : Nat) (x1 : Int32) (x2 : Int32) (x3 : Int32) (σ : ZM) : z_w d_Re_readNumbers cl 11 [some (vr r0), some (vi x1), some (vi x2), some (vi x3)] [] σ =
  if x3 < (x1 + (9 : Int32)) then
    z_g (z_at σ 2 20 x3) (if (z_i σ 2 x3.toNatClampNeg) = (1 : Int32) then
      some (vi (1 : Int32), σ)
    else
      z_g (z_at σ 2 20 x3) (z_g (z_kd σ r0 == 7) (z_bI (cl 60 [vr r0, vi (z_i σ 2 x3.toNatClampNeg)] σ) (fun v2 σ1 =>
      if v2 = 0 then
        some (vi (0 : Int32), σ1)
      else
        z_g (z_kd σ1 r0 == 7) (if (z_i σ1 r0 3) = (2 : Int32) then
          z_g (z_kd σ1 r0 == 7) (z_g (z_at σ1 2 20 (x3 + (1 : Int32))) (if (z_i σ1 r0 4) < (z_i σ1 2 (x3 + (1 : Int32)).toNatClampNeg) then
            z_g (z_kd σ1 r0 == 7) (z_bI (cl 57 [vr r0, vi (2 : Int32)] σ1) (fun v4 σ3 =>
            z_g (z_fit 1 v4) (some (vi v4, σ3))))
          else
            z_g (z_kd σ1 r0 == 7) (z_g (z_at σ1 2 20 (x3 + (2 : Int32))) (if (z_i σ1 2 (x3 + (2 : Int32)).toNatClampNeg) < (z_i σ1 r0 4) then
              z_g (z_kd σ1 r0 == 7) (z_bI (cl 57 [vr r0, vi (2 : Int32)] σ1) (fun v10 σ9 =>
              z_g (z_fit 1 v10) (some (vi v10, σ9))))
            else
              z_g (z_kd σ1 r0 == 7) (z_g (z_kd σ1 r0 == 7) (z_g (z_at σ1 (z_r σ1 r0 11) 20 x2 && Nat.ble 10 (z_r σ1 r0 11)) (z_x (z_ui σ1 (z_r σ1 r0 11) x2.toNatClampNeg (z_i σ1 r0 4)) (fun σ5 =>
              z_x (x2 + (1 : Int32)) (fun u6 => z_g (z_kd σ5 r0 == 7) (z_bI (cl 59 [vr r0] σ5) (fun v8 σ7 =>
              z_w d_Re_readNumbers cl 11 [some (vr r0), some (vi x1), some (vi u6), some (vi (x3 + (3 : Int32)))] [] σ7)))))))))))
        else
          z_g (z_kd σ1 r0 == 7) (z_bI (cl 57 [vr r0, vi (1 : Int32)] σ1) (fun v12 σ11 =>
          z_g (z_fit 1 v12) (some (vi v12, σ11)))))))))
  else
    some (vi (1 : Int32), σ) := (z_w_eq _ _ _ _ _ _).trans rfl
set_option maxRecDepth 100000 in
theorem e_Re_emit (d : Nat) (r0 : Nat) (x1 : Int32) (σ : ZM) : z_call (d + 1) 62 [vr r0, vi x1] σ =
  z_g (z_kd σ r0 == 7) (z_g (z_kd σ r0 == 7) (z_g (Nat.ble 20 (z_kd σ (z_r σ r0 5)) && Nat.ble (z_kd σ (z_r σ r0 5)) 24) (if (z_i σ r0 6) < (nI (z_ln σ (z_r σ r0 5))) then
    z_g (z_kd σ r0 == 7) (z_g (z_kd σ r0 == 7) (z_g (z_at σ (z_r σ r0 5) 20 (z_i σ r0 6) && Nat.ble 10 (z_r σ r0 5)) (z_x (z_ui σ (z_r σ r0 5) (z_i σ r0 6).toNatClampNeg x1) (fun σ1 =>
    z_g (z_kd σ1 r0 == 7) (z_g (z_kd σ1 r0 == 7) (z_x (z_ui σ1 r0 6 ((z_i σ1 r0 6) + (1 : Int32))) (fun σ2 =>
    some (vi (1 : Int32), σ2))))))))
  else
    some (vi (1 : Int32), σ)))) := (z_w_eq _ _ _ _ _ _).trans rfl
set_option maxRecDepth 100000 in
theorem e_Re_isNameOfLaw (d : Nat) (r0 : Nat) (x1 : Int32) (σ : ZM) : z_call (d + 1) 63 [vr r0, vi x1] σ =
  if x1 = (18 : Int32) then
    some (vi (1 : Int32), σ)
  else
    z_g (z_kd σ r0 == 7) (if (z_i σ r0 7) = (30 : Int32) then
      z_bI (z_call d 16 [vi x1, vi (25 : Int32), vi (27 : Int32)] σ) (fun v2 σ1 =>
      z_g (z_fit 1 v2) (some (vi v2, σ1)))
    else
      if x1 < (24 : Int32) then
        some (vi (1 : Int32), σ)
      else
        if x1 = (24 : Int32) then
          z_g (z_kd σ r0 == 7) (if (z_i σ r0 7) = (29 : Int32) then
            some (vi (1 : Int32), σ)
          else
            some (vi (0 : Int32), σ))
        else
          some (vi (0 : Int32), σ)) := (z_w_eq _ _ _ _ _ _).trans rfl
set_option maxRecDepth 100000 in
theorem e_Re_readOne (d : Nat) (r0 : Nat) (x1 : Int32) (σ : ZM) : z_call (d + 1) 64 [vr r0, vi x1] σ =
  z_g (z_kd σ r0 == 7) (if (z_i σ r0 3) = (2 : Int32) then
    z_g (z_kd σ r0 == 7) (if (9999 : Int32) < (z_i σ r0 4) then
      z_g (z_kd σ r0 == 7) (z_bI (z_call d 57 [vr r0, vi (2 : Int32)] σ) (fun v18 σ17 =>
      z_g (z_fit 1 v18) (some (vi v18, σ17))))
    else
      z_g (z_kd σ r0 == 7) (z_g (z_kd σ r0 == 7) (z_bI (z_call d 62 [vr r0, vi ((2 : Int32) + ((z_i σ r0 4) <<< ((6 : Int32) &&& 31)))] σ) (fun v14 σ13 =>
      if v14 = 0 then
        some (vi (0 : Int32), σ13)
      else
        z_g (z_kd σ13 r0 == 7) (z_bI (z_call d 59 [vr r0] σ13) (fun v16 σ15 =>
        if v16 = 0 then
          some (vi (0 : Int32), σ15)
        else
          some (vi (1 : Int32), σ15)))))))
  else
    z_g (z_kd σ r0 == 7) (z_bI (z_call d 16 [vi (z_i σ r0 3), vi (18 : Int32), vi (27 : Int32)] σ) (fun v2 σ1 =>
    if v2 = 0 then
      z_g (z_kd σ1 r0 == 7) (if (z_i σ1 r0 3) = (12 : Int32) then
        z_w d_Re_readOne (z_call d) 144 [some (vr r0), some (vi x1), none] [] σ1
      else
        z_g (z_kd σ1 r0 == 7) (if (z_i σ1 r0 3) = (4 : Int32) then
          z_w d_Re_readOne (z_call d) 144 [some (vr r0), some (vi x1), none] [] σ1
        else
          z_g (z_kd σ1 r0 == 7) (if (z_i σ1 r0 3) = (44 : Int32) then
            z_w d_Re_readOne (z_call d) 144 [some (vr r0), some (vi x1), none] [] σ1
          else
            z_g (z_kd σ1 r0 == 7) (z_bI (z_call d 57 [vr r0, vi (1 : Int32)] σ1) (fun v4 σ3 =>
            z_g (z_fit 1 v4) (some (vi v4, σ3)))))))
    else
      z_g (z_kd σ1 r0 == 7) (z_g (z_kd σ1 r0 == 7) (z_bI (z_call d 63 [vr r0, vi (z_i σ1 r0 3)] σ1) (fun v6 σ5 =>
      if v6 = 0 then
        z_g (z_kd σ5 r0 == 7) (z_bI (z_call d 57 [vr r0, vi (5 : Int32)] σ5) (fun v8 σ7 =>
        z_g (z_fit 1 v8) (some (vi v8, σ7))))
      else
        z_g (z_kd σ5 r0 == 7) (z_g (z_kd σ5 r0 == 7) (z_bI (z_call d 62 [vr r0, vi (z_i σ5 r0 3)] σ5) (fun v10 σ9 =>
        if v10 = 0 then
          some (vi (0 : Int32), σ9)
        else
          z_g (z_kd σ9 r0 == 7) (z_bI (z_call d 59 [vr r0] σ9) (fun v12 σ11 =>
          if v12 = 0 then
            some (vi (0 : Int32), σ11)
          else
            some (vi (1 : Int32), σ11)))))))))))) := (z_w_eq _ _ _ _ _ _).trans rfl
set_option maxRecDepth 100000 in
theorem e_Re_readOne_144 (cl : Nat → List ZV → ZM → ZR) (r0 : Nat) (x1 : Int32) (σ : ZM) : z_w d_Re_readOne cl 144 [some (vr r0), some (vi x1), none] [] σ =
  if x1 < (8 : Int32) then
    z_g (z_kd σ r0 == 7) (z_x (z_i σ r0 3) (fun u1 => z_g (z_kd σ r0 == 7) (z_bI (cl 59 [vr r0] σ) (fun v3 σ2 =>
    if u1 = (4 : Int32) then
      z_g (z_kd σ2 r0 == 7) (z_bI (cl 64 [vr r0, vi (x1 + (1 : Int32))] σ2) (fun v25 σ24 =>
      if v25 = 0 then
        some (vi (0 : Int32), σ24)
      else
        z_g (z_kd σ24 r0 == 7) (z_bI (cl 62 [vr r0, vi (45 : Int32)] σ24) (fun v27 σ26 =>
        if v27 = 0 then
          some (vi (0 : Int32), σ26)
        else
          some (vi (1 : Int32), σ26)))))
    else
      if u1 = (12 : Int32) then
        z_g (z_kd σ2 r0 == 7) (z_bI (cl 66 [vr r0, vi (x1 + (1 : Int32))] σ2) (fun v21 σ20 =>
        if v21 = 0 then
          some (vi (0 : Int32), σ20)
        else
          z_g (z_kd σ20 r0 == 7) (z_bI (cl 60 [vr r0, vi (13 : Int32)] σ20) (fun v23 σ22 =>
          if v23 = 0 then
            some (vi (0 : Int32), σ22)
          else
            some (vi (1 : Int32), σ22)))))
      else
        z_g (z_kd σ2 r0 == 7) (z_bI (cl 60 [vr r0, vi (12 : Int32)] σ2) (fun v5 σ4 =>
        if v5 = 0 then
          some (vi (0 : Int32), σ4)
        else
          z_g (z_kd σ4 r0 == 7) (z_bI (cl 66 [vr r0, vi (x1 + (1 : Int32))] σ4) (fun v7 σ6 =>
          if v7 = 0 then
            some (vi (0 : Int32), σ6)
          else
            z_g (z_kd σ6 r0 == 7) (z_bI (cl 60 [vr r0, vi (14 : Int32)] σ6) (fun v9 σ8 =>
            if v9 = 0 then
              some (vi (0 : Int32), σ8)
            else
              z_g (z_kd σ8 r0 == 7) (z_bI (cl 66 [vr r0, vi (x1 + (1 : Int32))] σ8) (fun v11 σ10 =>
              if v11 = 0 then
                some (vi (0 : Int32), σ10)
              else
                z_g (z_kd σ10 r0 == 7) (z_bI (cl 60 [vr r0, vi (14 : Int32)] σ10) (fun v13 σ12 =>
                if v13 = 0 then
                  some (vi (0 : Int32), σ12)
                else
                  z_g (z_kd σ12 r0 == 7) (z_bI (cl 66 [vr r0, vi (x1 + (1 : Int32))] σ12) (fun v15 σ14 =>
                  if v15 = 0 then
                    some (vi (0 : Int32), σ14)
                  else
                    z_g (z_kd σ14 r0 == 7) (z_bI (cl 60 [vr r0, vi (13 : Int32)] σ14) (fun v17 σ16 =>
                    if v17 = 0 then
                      some (vi (0 : Int32), σ16)
                    else
                      z_g (z_kd σ16 r0 == 7) (z_bI (cl 62 [vr r0, vi (44 : Int32)] σ16) (fun v19 σ18 =>
                      if v19 = 0 then
                        some (vi (0 : Int32), σ18)
                      else
                        some (vi (1 : Int32), σ18)))))))))))))))))))))
  else
    z_g (z_kd σ r0 == 7) (z_bI (cl 57 [vr r0, vi (3 : Int32)] σ) (fun v29 σ28 =>
    z_g (z_fit 1 v29) (some (vi v29, σ28)))) := (z_w_eq _ _ _ _ _ _).trans rfl
set_option maxRecDepth 100000 in
theorem e_Re_readProduct (d : Nat) (r0 : Nat) (x1 : Int32) (σ : ZM) : z_call (d + 1) 65 [vr r0, vi x1] σ =
  z_g (z_kd σ r0 == 7) (z_bI (z_call d 64 [vr r0, vi x1] σ) (fun v2 σ1 =>
  if v2 = 0 then
    some (vi (0 : Int32), σ1)
  else
    z_w d_Re_readProduct (z_call d) 12 [some (vr r0), some (vi x1), some (vi (0 : Int32)), none] [] σ1)) := (z_w_eq _ _ _ _ _ _).trans rfl
set_option maxRecDepth 100000 in
theorem e_Re_readProduct_12 (cl : Nat → List ZV → ZM → ZR) (r0 : Nat) (x1 : Int32) (x2 : Int32) (σ : ZM) : z_w d_Re_readProduct cl 12 [some (vr r0), some (vi x1), some (vi x2), none] [] σ =
  if x2 < (300 : Int32) then
    z_g (z_kd σ r0 == 7) (z_bI (cl 16 [vi (z_i σ r0 3), vi (5 : Int32), vi (7 : Int32)] σ) (fun v2 σ1 =>
    if v2 = 0 then
      some (vi (1 : Int32), σ1)
    else
      z_g (z_kd σ1 r0 == 7) (z_x (z_i σ1 r0 3) (fun u3 => z_g (z_kd σ1 r0 == 7) (z_bI (cl 59 [vr r0] σ1) (fun v5 σ4 =>
      z_g (z_kd σ4 r0 == 7) (z_bI (cl 64 [vr r0, vi x1] σ4) (fun v7 σ6 =>
      if v7 = 0 then
        some (vi (0 : Int32), σ6)
      else
        z_g (z_kd σ6 r0 == 7) (z_bI (cl 62 [vr r0, vi u3] σ6) (fun v9 σ8 =>
        z_w d_Re_readProduct cl 12 [some (vr r0), some (vi x1), some (vi (x2 + (1 : Int32))), none] [] σ8))))))))))
  else
    some (vi (1 : Int32), σ) := (z_w_eq _ _ _ _ _ _).trans rfl
set_option maxRecDepth 100000 in
theorem e_Re_readSum (d : Nat) (r0 : Nat) (x1 : Int32) (σ : ZM) : z_call (d + 1) 66 [vr r0, vi x1] σ =
  z_g (z_kd σ r0 == 7) (z_bI (z_call d 65 [vr r0, vi x1] σ) (fun v2 σ1 =>
  if v2 = 0 then
    some (vi (0 : Int32), σ1)
  else
    z_w d_Re_readSum (z_call d) 12 [some (vr r0), some (vi x1), some (vi (0 : Int32)), none] [] σ1)) := (z_w_eq _ _ _ _ _ _).trans rfl
set_option maxRecDepth 100000 in
theorem e_Re_readSum_12 (cl : Nat → List ZV → ZM → ZR) (r0 : Nat) (x1 : Int32) (x2 : Int32) (σ : ZM) : z_w d_Re_readSum cl 12 [some (vr r0), some (vi x1), some (vi x2), none] [] σ =
  if x2 < (300 : Int32) then
    z_g (z_kd σ r0 == 7) (z_bI (cl 16 [vi (z_i σ r0 3), vi (3 : Int32), vi (4 : Int32)] σ) (fun v2 σ1 =>
    if v2 = 0 then
      some (vi (1 : Int32), σ1)
    else
      z_g (z_kd σ1 r0 == 7) (z_x (z_i σ1 r0 3) (fun u3 => z_g (z_kd σ1 r0 == 7) (z_bI (cl 59 [vr r0] σ1) (fun v5 σ4 =>
      z_g (z_kd σ4 r0 == 7) (z_bI (cl 65 [vr r0, vi x1] σ4) (fun v7 σ6 =>
      if v7 = 0 then
        some (vi (0 : Int32), σ6)
      else
        z_g (z_kd σ6 r0 == 7) (z_bI (cl 62 [vr r0, vi u3] σ6) (fun v9 σ8 =>
        z_w d_Re_readSum cl 12 [some (vr r0), some (vi x1), some (vi (x2 + (1 : Int32))), none] [] σ8))))))))))
  else
    some (vi (1 : Int32), σ) := (z_w_eq _ _ _ _ _ _).trans rfl
set_option maxRecDepth 100000 in
theorem e_Re_readAsk (d : Nat) (r0 : Nat) (x1 : Int32) (σ : ZM) : z_call (d + 1) 67 [vr r0, vi x1] σ =
  z_g (z_kd σ r0 == 7) (if (z_i σ r0 3) = (43 : Int32) then
    if x1 < (8 : Int32) then
      z_g (z_kd σ r0 == 7) (z_bI (z_call d 59 [vr r0] σ) (fun v27 σ26 =>
      z_g (z_kd σ26 r0 == 7) (z_bI (z_call d 67 [vr r0, vi (x1 + (1 : Int32))] σ26) (fun v29 σ28 =>
      if v29 = 0 then
        some (vi (0 : Int32), σ28)
      else
        z_g (z_kd σ28 r0 == 7) (z_bI (z_call d 62 [vr r0, vi (43 : Int32)] σ28) (fun v31 σ30 =>
        if v31 = 0 then
          some (vi (0 : Int32), σ30)
        else
          some (vi (1 : Int32), σ30)))))))
    else
      z_g (z_kd σ r0 == 7) (z_bI (z_call d 57 [vr r0, vi (3 : Int32)] σ) (fun v33 σ32 =>
      z_g (z_fit 1 v33) (some (vi v33, σ32))))
  else
    z_g (z_kd σ r0 == 7) (z_bI (z_call d 66 [vr r0, vi x1] σ) (fun v2 σ1 =>
    if v2 = 0 then
      some (vi (0 : Int32), σ1)
    else
      z_g (z_kd σ1 r0 == 7) (z_x (z_i σ1 r0 3) (fun u3 => z_bI (z_call d 16 [vi u3, vi (8 : Int32), vi (11 : Int32)] σ1) (fun v5 σ4 =>
      if v5 = 0 then
        if u3 = (16 : Int32) then
          z_g (z_kd σ4 r0 == 7) (z_bI (z_call d 59 [vr r0] σ4) (fun v13 σ12 =>
          z_g (z_kd σ12 r0 == 7) (z_bI (z_call d 66 [vr r0, vi x1] σ12) (fun v15 σ14 =>
          if v15 = 0 then
            some (vi (0 : Int32), σ14)
          else
            z_g (z_kd σ14 r0 == 7) (z_bI (z_call d 62 [vr r0, vi u3] σ14) (fun v17 σ16 =>
            if v17 = 0 then
              some (vi (0 : Int32), σ16)
            else
              some (vi (1 : Int32), σ16)))))))
        else
          if u3 = (17 : Int32) then
            z_g (z_kd σ4 r0 == 7) (z_bI (z_call d 59 [vr r0] σ4) (fun v19 σ18 =>
            z_g (z_kd σ18 r0 == 7) (z_bI (z_call d 66 [vr r0, vi x1] σ18) (fun v21 σ20 =>
            if v21 = 0 then
              some (vi (0 : Int32), σ20)
            else
              z_g (z_kd σ20 r0 == 7) (z_bI (z_call d 62 [vr r0, vi u3] σ20) (fun v23 σ22 =>
              if v23 = 0 then
                some (vi (0 : Int32), σ22)
              else
                some (vi (1 : Int32), σ22)))))))
          else
            z_g (z_kd σ4 r0 == 7) (z_bI (z_call d 57 [vr r0, vi (1 : Int32)] σ4) (fun v25 σ24 =>
            z_g (z_fit 1 v25) (some (vi v25, σ24))))
      else
        z_g (z_kd σ4 r0 == 7) (z_bI (z_call d 59 [vr r0] σ4) (fun v7 σ6 =>
        z_g (z_kd σ6 r0 == 7) (z_bI (z_call d 66 [vr r0, vi x1] σ6) (fun v9 σ8 =>
        if v9 = 0 then
          some (vi (0 : Int32), σ8)
        else
          z_g (z_kd σ8 r0 == 7) (z_bI (z_call d 62 [vr r0, vi u3] σ8) (fun v11 σ10 =>
          if v11 = 0 then
            some (vi (0 : Int32), σ10)
          else
            some (vi (1 : Int32), σ10))))))))))))) := (z_w_eq _ _ _ _ _ _).trans rfl
set_option maxRecDepth 100000 in
theorem e_Re_readEither (d : Nat) (r0 : Nat) (σ : ZM) : z_call (d + 1) 68 [vr r0] σ =
  z_w d_Re_readEither (z_call d) 6 [some (vr r0), some (vi (0 : Int32)), some (vi (0 : Int32)), some (vi (0 : Int32))] [] σ := (z_w_eq _ _ _ _ _ _).trans rfl
set_option maxRecDepth 100000 in
theorem e_Re_readEither_6 (cl : Nat → List ZV → ZM → ZR) (r0 : Nat) (x1 : Int32) (x2 : Int32) (x3 : Int32) (σ : ZM) : z_w d_Re_readEither cl 6 [some (vr r0), some (vi x1), some (vi x2), some (vi x3)] [] σ =
  if x3 < (300 : Int32) then
    z_g (z_kd σ r0 == 7) (z_bI (cl 67 [vr r0, vi (0 : Int32)] σ) (fun v4 σ3 =>
    if v4 = 0 then
      some (vi (0 : Int32), σ3)
    else
      if x2 = 0 then
        z_g (z_kd σ3 r0 == 7) (if (z_i σ3 r0 3) = (42 : Int32) then
          if (1 : Int32) = 0 then
            if x1 = 0 then
              z_w d_Re_readEither cl 64 [some (vr r0), some (vi x1), some (vi (1 : Int32)), some (vi x3)] [] σ3
            else
              z_g (z_kd σ3 r0 == 7) (z_bI (cl 62 [vr r0, vi (41 : Int32)] σ3) (fun v8 σ7 =>
              z_w d_Re_readEither cl 64 [some (vr r0), some (vi x1), some (vi (1 : Int32)), some (vi x3)] [] σ7))
          else
            z_w d_Re_readEither cl 64 [some (vr r0), some (vi x1), some (vi (1 : Int32)), some (vi x3)] [] σ3
        else
          if (0 : Int32) = 0 then
            if x1 = 0 then
              z_w d_Re_readEither cl 64 [some (vr r0), some (vi x1), some (vi (0 : Int32)), some (vi x3)] [] σ3
            else
              z_g (z_kd σ3 r0 == 7) (z_bI (cl 62 [vr r0, vi (41 : Int32)] σ3) (fun v6 σ5 =>
              z_w d_Re_readEither cl 64 [some (vr r0), some (vi x1), some (vi (0 : Int32)), some (vi x3)] [] σ5))
          else
            z_w d_Re_readEither cl 64 [some (vr r0), some (vi x1), some (vi (0 : Int32)), some (vi x3)] [] σ3)
      else
        z_g (z_kd σ3 r0 == 7) (z_bI (cl 62 [vr r0, vi (42 : Int32)] σ3) (fun v10 σ9 =>
        z_g (z_kd σ9 r0 == 7) (if (z_i σ9 r0 3) = (42 : Int32) then
          if (1 : Int32) = 0 then
            if x1 = 0 then
              z_w d_Re_readEither cl 64 [some (vr r0), some (vi x1), some (vi (1 : Int32)), some (vi x3)] [] σ9
            else
              z_g (z_kd σ9 r0 == 7) (z_bI (cl 62 [vr r0, vi (41 : Int32)] σ9) (fun v14 σ13 =>
              z_w d_Re_readEither cl 64 [some (vr r0), some (vi x1), some (vi (1 : Int32)), some (vi x3)] [] σ13))
          else
            z_w d_Re_readEither cl 64 [some (vr r0), some (vi x1), some (vi (1 : Int32)), some (vi x3)] [] σ9
        else
          if (0 : Int32) = 0 then
            if x1 = 0 then
              z_w d_Re_readEither cl 64 [some (vr r0), some (vi x1), some (vi (0 : Int32)), some (vi x3)] [] σ9
            else
              z_g (z_kd σ9 r0 == 7) (z_bI (cl 62 [vr r0, vi (41 : Int32)] σ9) (fun v12 σ11 =>
              z_w d_Re_readEither cl 64 [some (vr r0), some (vi x1), some (vi (0 : Int32)), some (vi x3)] [] σ11))
          else
            z_w d_Re_readEither cl 64 [some (vr r0), some (vi x1), some (vi (0 : Int32)), some (vi x3)] [] σ9)))))
  else
    z_g (z_kd σ r0 == 7) (z_bI (cl 57 [vr r0, vi (1 : Int32)] σ) (fun v2 σ1 =>
    z_g (z_fit 1 v2) (some (vi v2, σ1)))) := (z_w_eq _ _ _ _ _ _).trans rfl
set_option maxRecDepth 100000 in
theorem e_Re_readEither_64 (cl : Nat → List ZV → ZM → ZR) (r0 : Nat) (x1 : Int32) (x2 : Int32) (x3 : Int32) (σ : ZM) : z_w d_Re_readEither cl 64 [some (vr r0), some (vi x1), some (vi x2), some (vi x3)] [] σ =
  if x2 = 0 then
    z_g (z_kd σ r0 == 7) (if (z_i σ r0 3) = (41 : Int32) then
      if x2 = 0 then
        if (1 : Int32) = 0 then
          some (vi (1 : Int32), σ)
        else
          z_g (z_kd σ r0 == 7) (z_bI (cl 59 [vr r0] σ) (fun v8 σ7 =>
          z_w d_Re_readEither cl 6 [some (vr r0), some (vi (1 : Int32)), some (vi x2), some (vi (x3 + (1 : Int32)))] [] σ7))
      else
        z_g (z_kd σ r0 == 7) (z_bI (cl 59 [vr r0] σ) (fun v6 σ5 =>
        z_w d_Re_readEither cl 6 [some (vr r0), some (vi (1 : Int32)), some (vi x2), some (vi (x3 + (1 : Int32)))] [] σ5))
    else
      if x2 = 0 then
        if (0 : Int32) = 0 then
          some (vi (1 : Int32), σ)
        else
          z_g (z_kd σ r0 == 7) (z_bI (cl 59 [vr r0] σ) (fun v4 σ3 =>
          z_w d_Re_readEither cl 6 [some (vr r0), some (vi (0 : Int32)), some (vi x2), some (vi (x3 + (1 : Int32)))] [] σ3))
      else
        z_g (z_kd σ r0 == 7) (z_bI (cl 59 [vr r0] σ) (fun v2 σ1 =>
        z_w d_Re_readEither cl 6 [some (vr r0), some (vi (0 : Int32)), some (vi x2), some (vi (x3 + (1 : Int32)))] [] σ1)))
  else
    if x2 = 0 then
      if x1 = 0 then
        some (vi (1 : Int32), σ)
      else
        z_g (z_kd σ r0 == 7) (z_bI (cl 59 [vr r0] σ) (fun v12 σ11 =>
        z_w d_Re_readEither cl 6 [some (vr r0), some (vi x1), some (vi x2), some (vi (x3 + (1 : Int32)))] [] σ11))
    else
      z_g (z_kd σ r0 == 7) (z_bI (cl 59 [vr r0] σ) (fun v10 σ9 =>
      z_w d_Re_readEither cl 6 [some (vr r0), some (vi x1), some (vi x2), some (vi (x3 + (1 : Int32)))] [] σ9)) := (z_w_eq _ _ _ _ _ _).trans rfl
set_option maxRecDepth 100000 in
theorem e_Ar_copyOf (d : Nat) (r0 : Nat) (x1 : Int32) (σ : ZM) : z_call (d + 1) 69 [vr r0, vi x1] σ =
  z_g (Nat.ble 20 (z_kd σ r0) && Nat.ble (z_kd σ r0) 24) (if x1 = (nI (z_ln σ r0)) then
    z_bR (z_call d 2 [vr r0] σ) (fun v7 σ6 =>
    z_g ((z_kd σ6 v7 == 20) && Nat.ble 10 v7) (some (vr v7, σ6)))
  else
    z_g (decide (0 ≤ x1) && Nat.ble x1.toNatClampNeg 100000 && true) (z_x (z_al σ 20 (x1.toNatClampNeg) (x1.toNatClampNeg)) (fun σ1 =>
    z_x (z_sz σ) (fun u2 => z_g (Nat.ble 20 (z_kd σ1 r0) && Nat.ble (z_kd σ1 r0) 24) (z_bI (z_call d 34 [vi (nI (z_ln σ1 r0)), vi x1] σ1) (fun v4 σ3 =>
    z_bV (z_call d 1 [vr r0, vi (0 : Int32), vr u2, vi (0 : Int32), vi v4] σ3) (fun σ5 =>
    some (vr u2, σ5)))))))) := (z_w_eq _ _ _ _ _ _).trans rfl
set_option maxRecDepth 100000 in
theorem e_Re_keepLaw (d : Nat) (r0 : Nat) (σ : ZM) : z_call (d + 1) 70 [vr r0] σ =
  z_g (z_kd σ r0 == 7) (z_g (z_kd σ r0 == 7) (z_bR (z_call d 69 [vr (z_r σ r0 5), vi (z_i σ r0 6)] σ) (fun v2 σ1 =>
  z_g (z_kd σ1 r0 == 7) (if (z_i σ1 r0 7) = (28 : Int32) then
    z_g (z_kd σ1 r0 == 7) (z_x (z_ur σ1 r0 8 v2) (fun σ5 =>
    some (vi 0, σ5)))
  else
    z_g (z_kd σ1 r0 == 7) (if (z_i σ1 r0 7) = (29 : Int32) then
      z_g (z_kd σ1 r0 == 7) (z_x (z_ur σ1 r0 9 v2) (fun σ4 =>
      some (vi 0, σ4)))
    else
      z_g (z_kd σ1 r0 == 7) (z_x (z_ur σ1 r0 10 v2) (fun σ3 =>
      some (vi 0, σ3)))))))) := (z_w_eq _ _ _ _ _ _).trans rfl
set_option maxRecDepth 100000 in
theorem e_Re_readClause (d : Nat) (r0 : Nat) (σ : ZM) : z_call (d + 1) 71 [vr r0] σ =
  z_g (z_kd σ r0 == 7) (z_x (z_i σ r0 3) (fun u1 => z_g (z_kd σ r0 == 7) (z_bI (z_call d 56 [vr r0, vi u1] σ) (fun v3 σ2 =>
  if u1 = (28 : Int32) then
    z_w d_Re_readClause (z_call d) 34 [some (vr r0), some (vi u1), some (vi v3), none, none] [vi (1 : Int32)] σ2
  else
    if u1 = (29 : Int32) then
      z_w d_Re_readClause (z_call d) 34 [some (vr r0), some (vi u1), some (vi v3), none, none] [vi (1 : Int32)] σ2
    else
      if u1 = (30 : Int32) then
        z_w d_Re_readClause (z_call d) 34 [some (vr r0), some (vi u1), some (vi v3), none, none] [vi (1 : Int32)] σ2
      else
        z_w d_Re_readClause (z_call d) 34 [some (vr r0), some (vi u1), some (vi v3), none, none] [vi (0 : Int32)] σ2)))) := (z_w_eq _ _ _ _ _ _).trans rfl
set_option maxRecDepth 100000 in
theorem e_Re_readClause_34 (cl : Nat → List ZV → ZM → ZR) (r0 : Nat) (x1 : Int32) (x2 : Int32) (s0 : Int32) (σ : ZM) : z_w d_Re_readClause cl 34 [some (vr r0), some (vi x1), some (vi x2), none, none] [vi s0] σ =
  if s0 = 0 then
    if x2 < 0 then
      z_g (z_kd σ r0 == 7) (z_bI (cl 57 [vr r0, vi (1 : Int32)] σ) (fun v10 σ9 =>
      z_g (z_fit 1 v10) (some (vi v10, σ9))))
    else
      if s0 = 0 then
        z_w d_Re_readClause cl 67 [some (vr r0), some (vi x1), some (vi x2), some (vi s0), none] [] σ
      else
        z_g (z_kd σ r0 == 7) (z_bR (cl 58 [vr r0, vi x1] σ) (fun v6 σ5 =>
        z_g (!(v6 == 9)) (if v6 = 0 then
          z_w d_Re_readClause cl 67 [some (vr r0), some (vi x1), some (vi x2), some (vi s0), none] [] σ5
        else
          z_g (z_kd σ5 r0 == 7) (z_bI (cl 57 [vr r0, vi (4 : Int32)] σ5) (fun v8 σ7 =>
          z_g (z_fit 1 v8) (some (vi v8, σ7)))))))
  else
    if s0 = 0 then
      z_w d_Re_readClause cl 67 [some (vr r0), some (vi x1), some (vi x2), some (vi s0), none] [] σ
    else
      z_g (z_kd σ r0 == 7) (z_bR (cl 58 [vr r0, vi x1] σ) (fun v2 σ1 =>
      z_g (!(v2 == 9)) (if v2 = 0 then
        z_w d_Re_readClause cl 67 [some (vr r0), some (vi x1), some (vi x2), some (vi s0), none] [] σ1
      else
        z_g (z_kd σ1 r0 == 7) (z_bI (cl 57 [vr r0, vi (4 : Int32)] σ1) (fun v4 σ3 =>
        z_g (z_fit 1 v4) (some (vi v4, σ3))))))) := (z_w_eq _ _ _ _ _ _).trans rfl
set_option maxRecDepth 100000 in
theorem e_Re_readClause_67 (cl : Nat → List ZV → ZM → ZR) (r0 : Nat) (x1 : Int32) (x2 : Int32) (x3 : Int32) (σ : ZM) : z_w d_Re_readClause cl 67 [some (vr r0), some (vi x1), some (vi x2), some (vi x3), none] [] σ =
  z_g (z_kd σ r0 == 7) (if (z_i σ r0 12) < (24 : Int32) then
    z_g (z_kd σ r0 == 7) (z_g (z_kd σ r0 == 7) (z_g (z_at σ (z_r σ r0 11) 20 ((z_i σ r0 12) * (4 : Int32)) && Nat.ble 10 (z_r σ r0 11)) (z_x (z_ui σ (z_r σ r0 11) ((z_i σ r0 12) * (4 : Int32)).toNatClampNeg x1) (fun σ1 =>
    z_g (z_kd σ1 r0 == 7) (z_x (z_ui σ1 r0 7 x1) (fun σ2 =>
    z_g (z_kd σ2 r0 == 7) (z_x (z_ui σ2 r0 6 (0 : Int32)) (fun σ3 =>
    if x3 = 0 then
      z_g (z_kd σ3 r0 == 7) (z_bI (cl 61 [vr r0, vi x2] σ3) (fun v11 σ10 =>
      z_w d_Re_readClause cl 153 [some (vr r0), none, none, some (vi x3), none] [vi v11] σ10))
    else
      z_g (z_kd σ3 r0 == 7) (z_bI (cl 59 [vr r0] σ3) (fun v5 σ4 =>
      if v5 = 0 then
        z_w d_Re_readClause cl 153 [some (vr r0), none, none, some (vi x3), none] [vi (0 : Int32)] σ4
      else
        if x1 = (30 : Int32) then
          z_g (z_kd σ4 r0 == 7) (z_bI (cl 68 [vr r0] σ4) (fun v9 σ8 =>
          if v9 = 0 then
            z_w d_Re_readClause cl 153 [some (vr r0), none, none, some (vi x3), none] [vi (0 : Int32)] σ8
          else
            z_w d_Re_readClause cl 153 [some (vr r0), none, none, some (vi x3), none] [vi (1 : Int32)] σ8))
        else
          z_g (z_kd σ4 r0 == 7) (z_bI (cl 66 [vr r0, vi (0 : Int32)] σ4) (fun v7 σ6 =>
          if v7 = 0 then
            z_w d_Re_readClause cl 153 [some (vr r0), none, none, some (vi x3), none] [vi (0 : Int32)] σ6
          else
            z_w d_Re_readClause cl 153 [some (vr r0), none, none, some (vi x3), none] [vi (1 : Int32)] σ6))))))))))))
  else
    z_g (z_kd σ r0 == 7) (z_bI (cl 57 [vr r0, vi (6 : Int32)] σ) (fun v13 σ12 =>
    z_g (z_fit 1 v13) (some (vi v13, σ12))))) := (z_w_eq _ _ _ _ _ _).trans rfl
set_option maxRecDepth 100000 in
theorem e_Re_readClause_153 (cl : Nat → List ZV → ZM → ZR) (r0 : Nat) (x3 : Int32) (s0 : Int32) (σ : ZM) : z_w d_Re_readClause cl 153 [some (vr r0), none, none, some (vi x3), none] [vi s0] σ =
  if s0 = 0 then
    some (vi (0 : Int32), σ)
  else
    if x3 = 0 then
      z_g (z_kd σ r0 == 7) (z_g (z_kd σ r0 == 7) (z_x (z_ui σ r0 12 ((z_i σ r0 12) + (1 : Int32))) (fun σ1 =>
      z_g (z_kd σ1 r0 == 7) (z_bI (cl 60 [vr r0, vi (15 : Int32)] σ1) (fun v3 σ2 =>
      z_g (z_fit 1 v3) (some (vi v3, σ2)))))))
    else
      z_g (z_kd σ r0 == 7) (z_bV (cl 70 [vr r0] σ) (fun σ4 =>
      z_g (z_kd σ4 r0 == 7) (z_g (z_kd σ4 r0 == 7) (z_x (z_ui σ4 r0 12 ((z_i σ4 r0 12) + (1 : Int32))) (fun σ5 =>
      z_g (z_kd σ5 r0 == 7) (z_bI (cl 60 [vr r0, vi (15 : Int32)] σ5) (fun v7 σ6 =>
      z_g (z_fit 1 v7) (some (vi v7, σ6))))))))) := (z_w_eq _ _ _ _ _ _).trans rfl
set_option maxRecDepth 100000 in
theorem e_Te_init (d : Nat) (r0 : Nat) (r1 : Nat) (r2 : Nat) (r3 : Nat) (r4 : Nat) (x5 : Int32) (σ : ZM) : z_call (d + 1) 72 [vr r0, vr r1, vr r2, vr r3, vr r4, vi x5] σ =
  z_bV (z_call d 0 [vr r0] σ) (fun σ1 =>
  z_g (z_kd σ1 r0 == 9) (z_x (z_ur σ1 r0 0 r1) (fun σ2 =>
  z_g (z_kd σ2 r0 == 9) (z_x (z_ur σ2 r0 1 r2) (fun σ3 =>
  z_g (z_kd σ3 r0 == 9) (z_x (z_ur σ3 r0 2 r3) (fun σ4 =>
  z_g (z_kd σ4 r0 == 9) (z_x (z_ur σ4 r0 3 r4) (fun σ5 =>
  z_g (z_kd σ5 r0 == 9) (z_x (z_ui σ5 r0 4 x5) (fun σ6 =>
  some (vi 0, σ6)))))))))))) := (z_w_eq _ _ _ _ _ _).trans rfl
set_option maxRecDepth 100000 in
theorem e_Re_read (d : Nat) (r0 : Nat) (r1 : Nat) (x2 : Int32) (σ : ZM) : z_call (d + 1) 73 [vr r0, vr r1, vi x2] σ =
  z_g (z_kd σ r0 == 7) (z_x (z_ur σ r0 8 0) (fun σ1 =>
  z_g (z_kd σ1 r0 == 7) (z_x (z_ur σ1 r0 9 0) (fun σ2 =>
  z_g (z_kd σ2 r0 == 7) (z_x (z_ur σ2 r0 10 0) (fun σ3 =>
  z_g (z_kd σ3 r0 == 7) (z_x (z_ui σ3 r0 12 (0 : Int32)) (fun σ4 =>
  z_g (z_kd σ4 r0 == 7) (z_x (z_ui σ4 r0 13 (1 : Int32)) (fun σ5 =>
  z_g (z_kd σ5 r0 == 7) (z_x (z_ui σ5 r0 14 (0 : Int32)) (fun σ6 =>
  z_g (z_kd σ6 r0 == 7) (z_x (z_ui σ6 r0 15 (-1 : Int32)) (fun σ7 =>
  z_bI (z_call d 34 [vi x2, vi (300 : Int32)] σ7) (fun v9 σ8 =>
  z_g (z_kd σ8 r0 == 7) (z_bV (z_call d 54 [vr r0, vr r1, vi v9] σ8) (fun σ10 =>
  z_g (z_kd σ10 r0 == 7) (z_bV (z_call d 55 [vr r0, vi (0 : Int32)] σ10) (fun σ11 =>
  z_w d_Re_read (z_call d) 54 [some (vr r0), none, none, some (vi (0 : Int32))] [] σ11))))))))))))))))))) := (z_w_eq _ _ _ _ _ _).trans rfl
set_option maxRecDepth 100000 in
theorem e_Re_read_54 (cl : Nat → List ZV → ZM → ZR) (r0 : Nat) (x3 : Int32) (σ : ZM) : z_w d_Re_read cl 54 [some (vr r0), none, none, some (vi x3)] [] σ =
  if (24 : Int32) < x3 then
    z_g (z_kd σ r0 == 7) (z_g (z_kd σ r0 == 7) (z_bR (cl 69 [vr (z_r σ r0 11), vi ((z_i σ r0 12) * (4 : Int32))] σ) (fun v2 σ1 =>
    z_x (z_al σ1 9 0 5) (fun σ3 =>
    z_x (z_sz σ1) (fun u4 => z_g (z_kd σ3 r0 == 7) (z_g (z_kd σ3 r0 == 7) (z_g (z_kd σ3 r0 == 7) (z_g (z_kd σ3 r0 == 7) (z_g (!(u4 == 0) && !(u4 == 9)) (z_bV (cl 72 [vr u4, vr (z_r σ3 r0 8), vr (z_r σ3 r0 9), vr (z_r σ3 r0 10), vr v2, vi (z_i σ3 r0 12)] σ3) (fun σ5 =>
    some (vr u4, σ5))))))))))))
  else
    z_g (z_kd σ r0 == 7) (if (z_i σ r0 3) = 0 then
      z_g (z_kd σ r0 == 7) (z_g (z_kd σ r0 == 7) (z_bR (cl 69 [vr (z_r σ r0 11), vi ((z_i σ r0 12) * (4 : Int32))] σ) (fun v7 σ6 =>
      z_x (z_al σ6 9 0 5) (fun σ8 =>
      z_x (z_sz σ6) (fun u9 => z_g (z_kd σ8 r0 == 7) (z_g (z_kd σ8 r0 == 7) (z_g (z_kd σ8 r0 == 7) (z_g (z_kd σ8 r0 == 7) (z_g (!(u9 == 0) && !(u9 == 9)) (z_bV (cl 72 [vr u9, vr (z_r σ8 r0 8), vr (z_r σ8 r0 9), vr (z_r σ8 r0 10), vr v7, vi (z_i σ8 r0 12)] σ8) (fun σ10 =>
      some (vr u9, σ10))))))))))))
    else
      z_g (z_kd σ r0 == 7) (z_bI (cl 71 [vr r0] σ) (fun v12 σ11 =>
      if v12 = 0 then
        some (vr 0, σ11)
      else
        z_w d_Re_read cl 54 [some (vr r0), none, none, some (vi (x3 + (1 : Int32)))] [] σ11))) := (z_w_eq _ _ _ _ _ _).trans rfl
set_option maxRecDepth 100000 in
theorem e_H_addText (d : Nat) (r0 : Nat) (r1 : Nat) (σ : ZM) : z_call (d + 1) 74 [vr r0, vr r1] σ =
  z_g (z_kd σ r0 == 4) (if (z_i σ r0 10) < (4 : Int32) then
    z_g (z_kd σ r0 == 4) (z_g (z_kd σ r0 == 4) (z_g (z_at σ (z_r σ r0 11) 24 (z_i σ r0 10) && Nat.ble 10 (z_r σ r0 11) && (r1 == 0 || z_kd σ r1 == 9)) (z_x (z_ur σ (z_r σ r0 11) (z_i σ r0 10).toNatClampNeg r1) (fun σ1 =>
    z_g (z_kd σ1 r0 == 4) (z_g (z_kd σ1 r0 == 4) (z_x (z_ui σ1 r0 10 ((z_i σ1 r0 10) + (1 : Int32))) (fun σ2 =>
    z_g (z_kd σ2 r0 == 4) (some (vi ((z_i σ2 r0 10) - (1 : Int32)), σ2)))))))))
  else
    some (vi (-1 : Int32), σ)) := (z_w_eq _ _ _ _ _ _).trans rfl
set_option maxRecDepth 100000 in
theorem e_B_text (d : Nat) (r0 : Nat) (σ : ZM) : z_call (d + 1) 75 [vr r0] σ =
  z_g (z_kd σ r0 == 11) (z_g (z_kd σ (z_r σ r0 0) == 4) (if (z_i σ (z_r σ r0 0) 10) < (4 : Int32) then
    z_g (z_kd σ r0 == 11) (z_g (z_kd σ r0 == 11) (z_g (z_kd σ r0 == 11) (z_g (z_kd σ (z_r σ r0 10) == 7) (z_bR (z_call d 73 [vr (z_r σ r0 10), vr (z_r σ r0 8), vi (z_i σ r0 9)] σ) (fun v2 σ1 =>
    z_g (z_kd σ1 r0 == 11) (z_x (z_ui σ1 r0 9 (0 : Int32)) (fun σ3 =>
    z_g (!(v2 == 9)) (if v2 = 0 then
      some (vi (-1 : Int32), σ3)
    else
      z_g (z_kd σ3 r0 == 11) (z_g (z_kd σ3 (z_r σ3 r0 0) == 4) (z_bI (z_call d 74 [vr (z_r σ3 r0 0), vr v2] σ3) (fun v5 σ4 =>
      some (vi v5, σ4))))))))))))
  else
    some (vi (-1 : Int32), σ))) := (z_w_eq _ _ _ _ _ _).trans rfl
set_option maxRecDepth 100000 in
theorem e_M_byteAt (d : Nat) (r0 : Nat) (x1 : Int32) (σ : ZM) : z_call (d + 1) 76 [vr r0, vi x1] σ =
  z_g (z_kd σ r0 == 12) (if x1 < (z_i σ r0 4) then
    z_g (z_kd σ r0 == 12) (z_g (z_at σ (z_r σ r0 3) 20 x1) (some (vi (z_i σ (z_r σ r0 3) x1.toNatClampNeg), σ)))
  else
    some (vi (-1 : Int32), σ)) := (z_w_eq _ _ _ _ _ _).trans rfl
set_option maxRecDepth 100000 in
theorem e_M_isFigure (d : Nat) (x0 : Int32) (σ : ZM) : z_call (d + 1) 77 [vi x0] σ =
  if x0 < (48 : Int32) then
    some (vi (0 : Int32), σ)
  else
    if (57 : Int32) < x0 then
      some (vi (0 : Int32), σ)
    else
      some (vi (1 : Int32), σ) := (z_w_eq _ _ _ _ _ _).trans rfl
set_option maxRecDepth 100000 in
theorem e_M_isLetterByte (d : Nat) (x0 : Int32) (σ : ZM) : z_call (d + 1) 78 [vi x0] σ =
  if x0 < (97 : Int32) then
    if x0 < (65 : Int32) then
      some (vi (0 : Int32), σ)
    else
      if (90 : Int32) < x0 then
        some (vi (0 : Int32), σ)
      else
        some (vi (1 : Int32), σ)
  else
    if (122 : Int32) < x0 then
      if x0 < (65 : Int32) then
        some (vi (0 : Int32), σ)
      else
        if (90 : Int32) < x0 then
          some (vi (0 : Int32), σ)
        else
          some (vi (1 : Int32), σ)
    else
      some (vi (1 : Int32), σ) := (z_w_eq _ _ _ _ _ _).trans rfl
set_option maxRecDepth 100000 in
theorem e_M_isSign (d : Nat) (x0 : Int32) (σ : ZM) : z_call (d + 1) 79 [vi x0] σ =
  if x0 = (35 : Int32) then
    some (vi (1 : Int32), σ)
  else if x0 = (36 : Int32) then
    some (vi (0 : Int32), σ)
  else if x0 = (37 : Int32) then
    some (vi (1 : Int32), σ)
  else if x0 = (38 : Int32) then
    some (vi (0 : Int32), σ)
  else if x0 = (39 : Int32) then
    some (vi (0 : Int32), σ)
  else if x0 = (40 : Int32) then
    some (vi (1 : Int32), σ)
  else if x0 = (41 : Int32) then
    some (vi (1 : Int32), σ)
  else if x0 = (42 : Int32) then
    some (vi (1 : Int32), σ)
  else if x0 = (43 : Int32) then
    some (vi (1 : Int32), σ)
  else if x0 = (44 : Int32) then
    some (vi (1 : Int32), σ)
  else if x0 = (45 : Int32) then
    some (vi (1 : Int32), σ)
  else if x0 = (46 : Int32) then
    some (vi (0 : Int32), σ)
  else if x0 = (47 : Int32) then
    some (vi (1 : Int32), σ)
  else if x0 = (48 : Int32) then
    some (vi (0 : Int32), σ)
  else if x0 = (49 : Int32) then
    some (vi (0 : Int32), σ)
  else if x0 = (50 : Int32) then
    some (vi (0 : Int32), σ)
  else if x0 = (51 : Int32) then
    some (vi (0 : Int32), σ)
  else if x0 = (52 : Int32) then
    some (vi (0 : Int32), σ)
  else if x0 = (53 : Int32) then
    some (vi (0 : Int32), σ)
  else if x0 = (54 : Int32) then
    some (vi (0 : Int32), σ)
  else if x0 = (55 : Int32) then
    some (vi (0 : Int32), σ)
  else if x0 = (56 : Int32) then
    some (vi (0 : Int32), σ)
  else if x0 = (57 : Int32) then
    some (vi (0 : Int32), σ)
  else if x0 = (58 : Int32) then
    some (vi (0 : Int32), σ)
  else if x0 = (59 : Int32) then
    some (vi (1 : Int32), σ)
  else if x0 = (60 : Int32) then
    some (vi (1 : Int32), σ)
  else if x0 = (61 : Int32) then
    some (vi (1 : Int32), σ)
  else if x0 = (62 : Int32) then
    some (vi (1 : Int32), σ)
  else some (vi (0 : Int32), σ) := (z_w_eq _ _ _ _ _ _).trans rfl
set_option maxRecDepth 100000 in
theorem e_M_nextToken (d : Nat) (r0 : Nat) (σ : ZM) : z_call (d + 1) 80 [vr r0] σ =
  z_g (z_kd σ r0 == 12) (z_g (z_kd σ r0 == 12) (z_bI (z_call d 76 [vr r0, vi (z_i σ r0 7)] σ) (fun v2 σ1 =>
  if v2 = (32 : Int32) then
    z_g (z_kd σ1 r0 == 12) (z_g (z_kd σ1 r0 == 12) (z_x (z_ui σ1 r0 7 ((z_i σ1 r0 7) + (1 : Int32))) (fun σ3 =>
    z_w d_M_nextToken (z_call d) 0 [some (vr r0), none] [] σ3)))
  else
    z_g (z_kd σ1 r0 == 12) (z_g (z_kd σ1 r0 == 12) (z_bI (z_call d 76 [vr r0, vi (z_i σ1 r0 7)] σ1) (fun v5 σ4 =>
    if v5 = (10 : Int32) then
      z_g (z_kd σ4 r0 == 12) (z_g (z_kd σ4 r0 == 12) (z_x (z_ui σ4 r0 7 ((z_i σ4 r0 7) + (1 : Int32))) (fun σ24 =>
      z_w d_M_nextToken (z_call d) 0 [some (vr r0), none] [] σ24)))
    else
      z_g (z_kd σ4 r0 == 12) (z_g (z_kd σ4 r0 == 12) (z_x (z_ui σ4 r0 8 (z_i σ4 r0 7)) (fun σ6 =>
      z_g (z_kd σ6 r0 == 12) (z_g (z_kd σ6 r0 == 12) (z_bI (z_call d 76 [vr r0, vi (z_i σ6 r0 7)] σ6) (fun v8 σ7 =>
      if v8 < 0 then
        z_g (z_kd σ7 r0 == 12) (z_x (z_ui σ7 r0 9 (0 : Int32)) (fun σ23 =>
        some (vi 0, σ23)))
      else
        z_bI (z_call d 77 [vi v8] σ7) (fun v10 σ9 =>
        if v10 = 0 then
          z_bI (z_call d 78 [vi v8] σ9) (fun v12 σ11 =>
          if v12 = 0 then
            z_bI (z_call d 79 [vi v8] σ11) (fun v14 σ13 =>
            if v14 = 0 then
              z_g (z_kd σ13 r0 == 12) (z_x (z_ui σ13 r0 9 (3 : Int32)) (fun σ15 =>
              z_g (z_kd σ15 r0 == 12) (z_g (z_kd σ15 r0 == 12) (z_x (z_ui σ15 r0 7 ((z_i σ15 r0 7) + (1 : Int32))) (fun σ16 =>
              if v8 = (60 : Int32) then
                z_w d_M_nextToken (z_call d) 272 [some (vr r0), some (vi v8)] [] σ16
              else
                if v8 = (62 : Int32) then
                  z_w d_M_nextToken (z_call d) 272 [some (vr r0), some (vi v8)] [] σ16
                else
                  some (vi 0, σ16))))))
            else
              z_g (z_kd σ13 r0 == 12) (z_x (z_ui σ13 r0 9 v8) (fun σ17 =>
              z_g (z_kd σ17 r0 == 12) (z_g (z_kd σ17 r0 == 12) (z_x (z_ui σ17 r0 7 ((z_i σ17 r0 7) + (1 : Int32))) (fun σ18 =>
              if v8 = (60 : Int32) then
                z_w d_M_nextToken (z_call d) 272 [some (vr r0), some (vi v8)] [] σ18
              else
                if v8 = (62 : Int32) then
                  z_w d_M_nextToken (z_call d) 272 [some (vr r0), some (vi v8)] [] σ18
                else
                  some (vi 0, σ18)))))))
          else
            z_g (z_kd σ11 r0 == 12) (z_x (z_ui σ11 r0 9 (2 : Int32)) (fun σ19 =>
            z_g (z_kd σ19 r0 == 12) (z_x (z_ul σ19 r0 11 (0 : Int64)) (fun σ20 =>
            z_w d_M_nextToken (z_call d) 168 [some (vr r0), none] [] σ20)))))
        else
          z_g (z_kd σ9 r0 == 12) (z_x (z_ui σ9 r0 9 (1 : Int32)) (fun σ21 =>
          z_g (z_kd σ21 r0 == 12) (z_x (z_ui σ21 r0 10 (0 : Int32)) (fun σ22 =>
          z_w d_M_nextToken (z_call d) 85 [some (vr r0), none] [] σ22))))))))))))))))) := (z_w_eq _ _ _ _ _ _).trans rfl
set_option maxRecDepth 100000 in
theorem e_M_nextToken_0 (cl : Nat → List ZV → ZM → ZR) (r0 : Nat) (σ : ZM) : z_w d_M_nextToken cl 0 [some (vr r0), none] [] σ =
  z_g (z_kd σ r0 == 12) (z_g (z_kd σ r0 == 12) (z_bI (cl 76 [vr r0, vi (z_i σ r0 7)] σ) (fun v2 σ1 =>
  if v2 = (32 : Int32) then
    z_g (z_kd σ1 r0 == 12) (z_g (z_kd σ1 r0 == 12) (z_x (z_ui σ1 r0 7 ((z_i σ1 r0 7) + (1 : Int32))) (fun σ3 =>
    z_w d_M_nextToken cl 0 [some (vr r0), none] [] σ3)))
  else
    z_g (z_kd σ1 r0 == 12) (z_g (z_kd σ1 r0 == 12) (z_bI (cl 76 [vr r0, vi (z_i σ1 r0 7)] σ1) (fun v5 σ4 =>
    if v5 = (10 : Int32) then
      z_g (z_kd σ4 r0 == 12) (z_g (z_kd σ4 r0 == 12) (z_x (z_ui σ4 r0 7 ((z_i σ4 r0 7) + (1 : Int32))) (fun σ24 =>
      z_w d_M_nextToken cl 0 [some (vr r0), none] [] σ24)))
    else
      z_g (z_kd σ4 r0 == 12) (z_g (z_kd σ4 r0 == 12) (z_x (z_ui σ4 r0 8 (z_i σ4 r0 7)) (fun σ6 =>
      z_g (z_kd σ6 r0 == 12) (z_g (z_kd σ6 r0 == 12) (z_bI (cl 76 [vr r0, vi (z_i σ6 r0 7)] σ6) (fun v8 σ7 =>
      if v8 < 0 then
        z_g (z_kd σ7 r0 == 12) (z_x (z_ui σ7 r0 9 (0 : Int32)) (fun σ23 =>
        some (vi 0, σ23)))
      else
        z_bI (cl 77 [vi v8] σ7) (fun v10 σ9 =>
        if v10 = 0 then
          z_bI (cl 78 [vi v8] σ9) (fun v12 σ11 =>
          if v12 = 0 then
            z_bI (cl 79 [vi v8] σ11) (fun v14 σ13 =>
            if v14 = 0 then
              z_g (z_kd σ13 r0 == 12) (z_x (z_ui σ13 r0 9 (3 : Int32)) (fun σ15 =>
              z_g (z_kd σ15 r0 == 12) (z_g (z_kd σ15 r0 == 12) (z_x (z_ui σ15 r0 7 ((z_i σ15 r0 7) + (1 : Int32))) (fun σ16 =>
              if v8 = (60 : Int32) then
                z_w d_M_nextToken cl 272 [some (vr r0), some (vi v8)] [] σ16
              else
                if v8 = (62 : Int32) then
                  z_w d_M_nextToken cl 272 [some (vr r0), some (vi v8)] [] σ16
                else
                  some (vi 0, σ16))))))
            else
              z_g (z_kd σ13 r0 == 12) (z_x (z_ui σ13 r0 9 v8) (fun σ17 =>
              z_g (z_kd σ17 r0 == 12) (z_g (z_kd σ17 r0 == 12) (z_x (z_ui σ17 r0 7 ((z_i σ17 r0 7) + (1 : Int32))) (fun σ18 =>
              if v8 = (60 : Int32) then
                z_w d_M_nextToken cl 272 [some (vr r0), some (vi v8)] [] σ18
              else
                if v8 = (62 : Int32) then
                  z_w d_M_nextToken cl 272 [some (vr r0), some (vi v8)] [] σ18
                else
                  some (vi 0, σ18)))))))
          else
            z_g (z_kd σ11 r0 == 12) (z_x (z_ui σ11 r0 9 (2 : Int32)) (fun σ19 =>
            z_g (z_kd σ19 r0 == 12) (z_x (z_ul σ19 r0 11 (0 : Int64)) (fun σ20 =>
            z_w d_M_nextToken cl 168 [some (vr r0), none] [] σ20)))))
        else
          z_g (z_kd σ9 r0 == 12) (z_x (z_ui σ9 r0 9 (1 : Int32)) (fun σ21 =>
          z_g (z_kd σ21 r0 == 12) (z_x (z_ui σ21 r0 10 (0 : Int32)) (fun σ22 =>
          z_w d_M_nextToken cl 85 [some (vr r0), none] [] σ22))))))))))))))))) := (z_w_eq _ _ _ _ _ _).trans rfl
set_option maxRecDepth 100000 in
theorem e_M_nextToken_85 (cl : Nat → List ZV → ZM → ZR) (r0 : Nat) (σ : ZM) : z_w d_M_nextToken cl 85 [some (vr r0), none] [] σ =
  z_g (z_kd σ r0 == 12) (z_g (z_kd σ r0 == 12) (z_bI (cl 76 [vr r0, vi (z_i σ r0 7)] σ) (fun v2 σ1 =>
  z_bI (cl 77 [vi v2] σ1) (fun v4 σ3 =>
  if v4 = 0 then
    some (vi 0, σ3)
  else
    z_g (z_kd σ3 r0 == 12) (if (99999 : Int32) < (z_i σ3 r0 10) then
      z_g (z_kd σ3 r0 == 12) (z_g (z_kd σ3 r0 == 12) (z_x (z_ui σ3 r0 10 (z_i σ3 r0 10)) (fun σ9 =>
      z_g (z_kd σ9 r0 == 12) (z_g (z_kd σ9 r0 == 12) (z_x (z_ui σ9 r0 7 ((z_i σ9 r0 7) + (1 : Int32))) (fun σ10 =>
      z_w d_M_nextToken cl 85 [some (vr r0), none] [] σ10))))))
    else
      z_g (z_kd σ3 r0 == 12) (z_g (z_kd σ3 r0 == 12) (z_g (z_kd σ3 r0 == 12) (z_bI (cl 76 [vr r0, vi (z_i σ3 r0 7)] σ3) (fun v6 σ5 =>
      z_g (z_kd σ5 r0 == 12) (z_x (z_ui σ5 r0 10 ((((10 : Int32) * (z_i σ3 r0 10)) + v6) - (48 : Int32))) (fun σ7 =>
      z_g (z_kd σ7 r0 == 12) (z_g (z_kd σ7 r0 == 12) (z_x (z_ui σ7 r0 7 ((z_i σ7 r0 7) + (1 : Int32))) (fun σ8 =>
      z_w d_M_nextToken cl 85 [some (vr r0), none] [] σ8)))))))))))))) := (z_w_eq _ _ _ _ _ _).trans rfl
set_option maxRecDepth 100000 in
theorem e_M_nextToken_168 (cl : Nat → List ZV → ZM → ZR) (r0 : Nat) (σ : ZM) : z_w d_M_nextToken cl 168 [some (vr r0), none] [] σ =
  z_g (z_kd σ r0 == 12) (z_g (z_kd σ r0 == 12) (z_bI (cl 76 [vr r0, vi (z_i σ r0 7)] σ) (fun v2 σ1 =>
  z_bI (cl 78 [vi v2] σ1) (fun v4 σ3 =>
  if v4 = 0 then
    some (vi 0, σ3)
  else
    z_g (z_kd σ3 r0 == 12) (if (lg_cmp ((z_l σ3 r0 11) >>> ((48 : Int32).toInt64 &&& 63)) (0 : Int64)) = 0 then
      z_g (z_kd σ3 r0 == 12) (z_g (z_kd σ3 r0 == 12) (z_g (z_kd σ3 r0 == 12) (z_bI (cl 76 [vr r0, vi (z_i σ3 r0 7)] σ3) (fun v6 σ5 =>
      z_g (z_kd σ5 r0 == 12) (z_x (z_ul σ5 r0 11 (((z_l σ3 r0 11) <<< ((8 : Int32).toInt64 &&& 63)) ||| v6.toInt64)) (fun σ7 =>
      z_g (z_kd σ7 r0 == 12) (z_g (z_kd σ7 r0 == 12) (z_x (z_ui σ7 r0 7 ((z_i σ7 r0 7) + (1 : Int32))) (fun σ8 =>
      z_w d_M_nextToken cl 168 [some (vr r0), none] [] σ8)))))))))
    else
      z_g (z_kd σ3 r0 == 12) (z_x (z_ul σ3 r0 11 (1152921504606846976 : Int64)) (fun σ9 =>
      z_g (z_kd σ9 r0 == 12) (z_g (z_kd σ9 r0 == 12) (z_x (z_ui σ9 r0 7 ((z_i σ9 r0 7) + (1 : Int32))) (fun σ10 =>
      z_w d_M_nextToken cl 168 [some (vr r0), none] [] σ10)))))))))) := (z_w_eq _ _ _ _ _ _).trans rfl
set_option maxRecDepth 100000 in
theorem e_M_nextToken_272 (cl : Nat → List ZV → ZM → ZR) (r0 : Nat) (x1 : Int32) (σ : ZM) : z_w d_M_nextToken cl 272 [some (vr r0), some (vi x1)] [] σ =
  z_g (z_kd σ r0 == 12) (z_g (z_kd σ r0 == 12) (z_bI (cl 76 [vr r0, vi (z_i σ r0 7)] σ) (fun v2 σ1 =>
  if v2 = (61 : Int32) then
    if x1 = (60 : Int32) then
      z_g (z_kd σ1 r0 == 12) (z_x (z_ui σ1 r0 9 (4 : Int32)) (fun σ5 =>
      z_g (z_kd σ5 r0 == 12) (z_g (z_kd σ5 r0 == 12) (z_x (z_ui σ5 r0 7 ((z_i σ5 r0 7) + (1 : Int32))) (fun σ6 =>
      some (vi 0, σ6))))))
    else
      z_g (z_kd σ1 r0 == 12) (z_x (z_ui σ1 r0 9 (5 : Int32)) (fun σ3 =>
      z_g (z_kd σ3 r0 == 12) (z_g (z_kd σ3 r0 == 12) (z_x (z_ui σ3 r0 7 ((z_i σ3 r0 7) + (1 : Int32))) (fun σ4 =>
      some (vi 0, σ4))))))
  else
    some (vi 0, σ1)))) := (z_w_eq _ _ _ _ _ _).trans rfl
set_option maxRecDepth 100000 in
theorem e_M_w2 (d : Nat) (x0 : Int32) (x1 : Int32) (σ : ZM) : z_call (d + 1) 81 [vi x0, vi x1] σ =
  some (vl ((x0.toInt64 <<< ((8 : Int32).toInt64 &&& 63)) ||| x1.toInt64), σ) := (z_w_eq _ _ _ _ _ _).trans rfl
set_option maxRecDepth 100000 in
theorem e_M_w3 (d : Nat) (x0 : Int32) (x1 : Int32) (x2 : Int32) (σ : ZM) : z_call (d + 1) 82 [vi x0, vi x1, vi x2] σ =
  z_bL (z_call d 81 [vi x0, vi x1] σ) (fun v2 σ1 =>
  some (vl ((v2 <<< ((8 : Int32).toInt64 &&& 63)) ||| x2.toInt64), σ1)) := (z_w_eq _ _ _ _ _ _).trans rfl
set_option maxRecDepth 100000 in
theorem e_M_w4 (d : Nat) (x0 : Int32) (x1 : Int32) (x2 : Int32) (x3 : Int32) (σ : ZM) : z_call (d + 1) 83 [vi x0, vi x1, vi x2, vi x3] σ =
  z_bL (z_call d 82 [vi x0, vi x1, vi x2] σ) (fun v2 σ1 =>
  some (vl ((v2 <<< ((8 : Int32).toInt64 &&& 63)) ||| x3.toInt64), σ1)) := (z_w_eq _ _ _ _ _ _).trans rfl
set_option maxRecDepth 100000 in
theorem e_M_w5 (d : Nat) (x0 : Int32) (x1 : Int32) (x2 : Int32) (x3 : Int32) (x4 : Int32) (σ : ZM) : z_call (d + 1) 84 [vi x0, vi x1, vi x2, vi x3, vi x4] σ =
  z_bL (z_call d 83 [vi x0, vi x1, vi x2, vi x3] σ) (fun v2 σ1 =>
  some (vl ((v2 <<< ((8 : Int32).toInt64 &&& 63)) ||| x4.toInt64), σ1)) := (z_w_eq _ _ _ _ _ _).trans rfl
set_option maxRecDepth 100000 in
theorem e_M_w6 (d : Nat) (x0 : Int32) (x1 : Int32) (x2 : Int32) (x3 : Int32) (x4 : Int32) (x5 : Int32) (σ : ZM) : z_call (d + 1) 85 [vi x0, vi x1, vi x2, vi x3, vi x4, vi x5] σ =
  z_bL (z_call d 84 [vi x0, vi x1, vi x2, vi x3, vi x4] σ) (fun v2 σ1 =>
  some (vl ((v2 <<< ((8 : Int32).toInt64 &&& 63)) ||| x5.toInt64), σ1)) := (z_w_eq _ _ _ _ _ _).trans rfl
set_option maxRecDepth 100000 in
theorem e_M_isWord (d : Nat) (r0 : Nat) (x1 : Int64) (σ : ZM) : z_call (d + 1) 86 [vr r0, vl x1] σ =
  z_g (z_kd σ r0 == 12) (if (z_i σ r0 9) = (2 : Int32) then
    z_g (z_kd σ r0 == 12) (if (lg_cmp (z_l σ r0 11) x1) = 0 then
      some (vi (1 : Int32), σ)
    else
      some (vi (0 : Int32), σ))
  else
    some (vi (0 : Int32), σ)) := (z_w_eq _ _ _ _ _ _).trans rfl
set_option maxRecDepth 100000 in
theorem e_M_sortOf (d : Nat) (r0 : Nat) (σ : ZM) : z_call (d + 1) 87 [vr r0] σ =
  z_bL (z_call d 85 [vi (98 : Int32), vi (114 : Int32), vi (101 : Int32), vi (97 : Int32), vi (116 : Int32), vi (104 : Int32)] σ) (fun v2 σ1 =>
  z_g (z_kd σ1 r0 == 12) (z_bI (z_call d 86 [vr r0, vl v2] σ1) (fun v4 σ3 =>
  if v4 = 0 then
    z_bL (z_call d 85 [vi (112 : Int32), vi (97 : Int32), vi (115 : Int32), vi (115 : Int32), vi (101 : Int32), vi (115 : Int32)] σ3) (fun v6 σ5 =>
    z_g (z_kd σ5 r0 == 12) (z_bI (z_call d 86 [vr r0, vl v6] σ5) (fun v8 σ7 =>
    if v8 = 0 then
      z_bL (z_call d 84 [vi (104 : Int32), vi (111 : Int32), vi (108 : Int32), vi (100 : Int32), vi (115 : Int32)] σ7) (fun v10 σ9 =>
      z_g (z_kd σ9 r0 == 12) (z_bI (z_call d 86 [vr r0, vl v10] σ9) (fun v12 σ11 =>
      if v12 = 0 then
        z_bL (z_call d 83 [vi (115 : Int32), vi (101 : Int32), vi (97 : Int32), vi (116 : Int32)] σ11) (fun v14 σ13 =>
        z_g (z_kd σ13 r0 == 12) (z_bI (z_call d 86 [vr r0, vl v14] σ13) (fun v16 σ15 =>
        if v16 = 0 then
          z_bL (z_call d 82 [vi (111 : Int32), vi (110 : Int32), vi (101 : Int32)] σ15) (fun v18 σ17 =>
          z_g (z_kd σ17 r0 == 12) (z_bI (z_call d 86 [vr r0, vl v18] σ17) (fun v20 σ19 =>
          if v20 = 0 then
            z_bL (z_call d 83 [vi (110 : Int32), vi (111 : Int32), vi (116 : Int32), vi (101 : Int32)] σ19) (fun v22 σ21 =>
            z_g (z_kd σ21 r0 == 12) (z_bI (z_call d 86 [vr r0, vl v22] σ21) (fun v24 σ23 =>
            if v24 = 0 then
              z_bL (z_call d 82 [vi (115 : Int32), vi (105 : Int32), vi (116 : Int32)] σ23) (fun v26 σ25 =>
              z_g (z_kd σ25 r0 == 12) (z_bI (z_call d 86 [vr r0, vl v26] σ25) (fun v28 σ27 =>
              if v28 = 0 then
                z_bL (z_call d 84 [vi (115 : Int32), vi (108 : Int32), vi (101 : Int32), vi (101 : Int32), vi (112 : Int32)] σ27) (fun v30 σ29 =>
                z_g (z_kd σ29 r0 == 12) (z_bI (z_call d 86 [vr r0, vl v30] σ29) (fun v32 σ31 =>
                if v32 = 0 then
                  z_bL (z_call d 83 [vi (119 : Int32), vi (97 : Int32), vi (107 : Int32), vi (101 : Int32)] σ31) (fun v34 σ33 =>
                  z_g (z_kd σ33 r0 == 12) (z_bI (z_call d 86 [vr r0, vl v34] σ33) (fun v36 σ35 =>
                  if v36 = 0 then
                    z_bL (z_call d 83 [vi (104 : Int32), vi (111 : Int32), vi (108 : Int32), vi (100 : Int32)] σ35) (fun v38 σ37 =>
                    z_g (z_kd σ37 r0 == 12) (z_bI (z_call d 86 [vr r0, vl v38] σ37) (fun v40 σ39 =>
                    if v40 = 0 then
                      z_bL (z_call d 84 [vi (117 : Int32), vi (115 : Int32), vi (104 : Int32), vi (101 : Int32), vi (114 : Int32)] σ39) (fun v42 σ41 =>
                      z_g (z_kd σ41 r0 == 12) (z_bI (z_call d 86 [vr r0, vl v42] σ41) (fun v44 σ43 =>
                      if v44 = 0 then
                        z_bL (z_call d 84 [vi (99 : Int32), vi (111 : Int32), vi (117 : Int32), vi (103 : Int32), vi (104 : Int32)] σ43) (fun v46 σ45 =>
                        z_g (z_kd σ45 r0 == 12) (z_bI (z_call d 86 [vr r0, vl v46] σ45) (fun v48 σ47 =>
                        if v48 = 0 then
                          z_bL (z_call d 83 [vi (98 : Int32), vi (101 : Int32), vi (97 : Int32), vi (116 : Int32)] σ47) (fun v50 σ49 =>
                          z_g (z_kd σ49 r0 == 12) (z_bI (z_call d 86 [vr r0, vl v50] σ49) (fun v52 σ51 =>
                          if v52 = 0 then
                            some (vi (-1 : Int32), σ51)
                          else
                            some (vi (12 : Int32), σ51))))
                        else
                          some (vi (11 : Int32), σ47))))
                      else
                        some (vi (10 : Int32), σ43))))
                    else
                      some (vi (9 : Int32), σ39))))
                  else
                    some (vi (8 : Int32), σ35))))
                else
                  some (vi (7 : Int32), σ31))))
              else
                some (vi (6 : Int32), σ27))))
            else
              some (vi (5 : Int32), σ23))))
          else
            some (vi (4 : Int32), σ19))))
        else
          some (vi (3 : Int32), σ15))))
      else
        some (vi (2 : Int32), σ11))))
    else
      some (vi (1 : Int32), σ7))))
  else
    some (vi (0 : Int32), σ3)))) := (z_w_eq _ _ _ _ _ _).trans rfl
set_option maxRecDepth 100000 in
theorem e_M_has (d : Nat) (x0 : Int32) (x1 : Int32) (σ : ZM) : z_call (d + 1) 88 [vi x0, vi x1] σ =
  if ((x0 >>> (x1 &&& 31)) &&& (1 : Int32)) = (1 : Int32) then
    some (vi (1 : Int32), σ)
  else
    some (vi (0 : Int32), σ) := (z_w_eq _ _ _ _ _ _).trans rfl
set_option maxRecDepth 100000 in
theorem e_M_openNow (d : Nat) (r0 : Nat) (σ : ZM) : z_call (d + 1) 89 [vr r0] σ =
  z_g (z_kd σ r0 == 12) (z_x ((z_i σ r0 16) - (1 : Int32)) (fun u1 => z_w d_M_openNow (z_call d) 7 [some (vr r0), some (vi u1)] [] σ)) := (z_w_eq _ _ _ _ _ _).trans rfl
set_option maxRecDepth 100000 in
theorem e_M_openNow_7 (cl : Nat → List ZV → ZM → ZR) (r0 : Nat) (x1 : Int32) (σ : ZM) : z_w d_M_openNow cl 7 [some (vr r0), some (vi x1)] [] σ =
  if x1 < 0 then
    if x1 < 0 then
      some (vi (-1 : Int32), σ)
    else
      z_g (z_kd σ r0 == 12) (z_g (z_at σ (z_r σ r0 15) 20 x1) (some (vi (z_i σ (z_r σ r0 15) x1.toNatClampNeg), σ)))
  else
    z_g (z_kd σ r0 == 12) (z_g (z_at σ (z_r σ r0 15) 20 x1) (if (z_i σ (z_r σ r0 15) x1.toNatClampNeg) < (40 : Int32) then
      z_w d_M_openNow cl 7 [some (vr r0), some (vi (x1 + (-1 : Int32)))] [] σ
    else
      if x1 < 0 then
        some (vi (-1 : Int32), σ)
      else
        z_g (z_kd σ r0 == 12) (z_g (z_at σ (z_r σ r0 15) 20 x1) (some (vi (z_i σ (z_r σ r0 15) x1.toNatClampNeg), σ))))) := (z_w_eq _ _ _ _ _ _).trans rfl
set_option maxRecDepth 100000 in
theorem e_M_isAskHere (d : Nat) (r0 : Nat) (σ : ZM) : z_call (d + 1) 90 [vr r0] σ =
  z_g (z_kd σ r0 == 12) (if (z_i σ r0 19) = 0 then
    some (vi (0 : Int32), σ)
  else
    z_g (z_kd σ r0 == 12) (z_bI (z_call d 89 [vr r0] σ) (fun v2 σ1 =>
    if v2 = (-1 : Int32) then
      some (vi (1 : Int32), σ1)
    else
      some (vi (0 : Int32), σ1)))) := (z_w_eq _ _ _ _ _ _).trans rfl
set_option maxRecDepth 100000 in
theorem e_M_rank (d : Nat) (x0 : Int32) (σ : ZM) : z_call (d + 1) 91 [vi x0] σ =
  if x0 < (40 : Int32) then
    if x0 = (22 : Int32) then
      some (vi (1 : Int32), σ)
    else
      if x0 = (21 : Int32) then
        some (vi (2 : Int32), σ)
      else
        if x0 = (20 : Int32) then
          some (vi (3 : Int32), σ)
        else
          if x0 < (10 : Int32) then
            if x0 = (3 : Int32) then
              some (vi (7 : Int32), σ)
            else
              if x0 < (6 : Int32) then
                some (vi (5 : Int32), σ)
              else
                some (vi (6 : Int32), σ)
          else
            some (vi (4 : Int32), σ)
  else
    some (vi (0 : Int32), σ) := (z_w_eq _ _ _ _ _ _).trans rfl
set_option maxRecDepth 100000 in
theorem e_M_isCompared (d : Nat) (r0 : Nat) (σ : ZM) : z_call (d + 1) 92 [vr r0] σ =
  z_g (z_kd σ r0 == 12) (z_x ((z_i σ r0 16) - (1 : Int32)) (fun u1 => z_w d_M_isCompared (z_call d) 7 [some (vr r0), some (vi u1)] [] σ)) := (z_w_eq _ _ _ _ _ _).trans rfl
set_option maxRecDepth 100000 in
theorem e_M_isCompared_7 (cl : Nat → List ZV → ZM → ZR) (r0 : Nat) (x1 : Int32) (σ : ZM) : z_w d_M_isCompared cl 7 [some (vr r0), some (vi x1)] [] σ =
  if x1 < 0 then
    if x1 < 0 then
      some (vi (0 : Int32), σ)
    else
      z_g (z_kd σ r0 == 12) (z_g (z_at σ (z_r σ r0 15) 20 x1) (z_bI (cl 91 [vi (z_i σ (z_r σ r0 15) x1.toNatClampNeg)] σ) (fun v2 σ1 =>
      if v2 = (4 : Int32) then
        some (vi (1 : Int32), σ1)
      else
        some (vi (0 : Int32), σ1))))
  else
    z_g (z_kd σ r0 == 12) (z_g (z_at σ (z_r σ r0 15) 20 x1) (z_bI (cl 91 [vi (z_i σ (z_r σ r0 15) x1.toNatClampNeg)] σ) (fun v4 σ3 =>
    if (4 : Int32) < v4 then
      z_w d_M_isCompared cl 7 [some (vr r0), some (vi (x1 + (-1 : Int32)))] [] σ3
    else
      if x1 < 0 then
        some (vi (0 : Int32), σ3)
      else
        z_g (z_kd σ3 r0 == 12) (z_g (z_at σ3 (z_r σ3 r0 15) 20 x1) (z_bI (cl 91 [vi (z_i σ3 (z_r σ3 r0 15) x1.toNatClampNeg)] σ3) (fun v6 σ5 =>
        if v6 = (4 : Int32) then
          some (vi (1 : Int32), σ5)
        else
          some (vi (0 : Int32), σ5))))))) := (z_w_eq _ _ _ _ _ _).trans rfl
set_option maxRecDepth 100000 in
theorem e_M_compareOf (d : Nat) (r0 : Nat) (σ : ZM) : z_call (d + 1) 93 [vr r0] σ =
  z_g (z_kd σ r0 == 12) (if (z_i σ r0 9) = (60 : Int32) then
    some (vi (10 : Int32), σ)
  else
    z_g (z_kd σ r0 == 12) (if (z_i σ r0 9) = (4 : Int32) then
      some (vi (11 : Int32), σ)
    else
      z_g (z_kd σ r0 == 12) (if (z_i σ r0 9) = (62 : Int32) then
        some (vi (12 : Int32), σ)
      else
        z_g (z_kd σ r0 == 12) (if (z_i σ r0 9) = (5 : Int32) then
          some (vi (13 : Int32), σ)
        else
          z_g (z_kd σ r0 == 12) (if (z_i σ r0 9) = (61 : Int32) then
            some (vi (14 : Int32), σ)
          else
            z_g (z_kd σ r0 == 12) (if (z_i σ r0 9) = (35 : Int32) then
              some (vi (15 : Int32), σ)
            else
              some (vi (-1 : Int32), σ))))))) := (z_w_eq _ _ _ _ _ _).trans rfl
set_option maxRecDepth 100000 in
theorem e_M_betweenOf (d : Nat) (r0 : Nat) (σ : ZM) : z_call (d + 1) 94 [vr r0] σ =
  z_g (z_kd σ r0 == 12) (if (z_i σ r0 9) = (43 : Int32) then
    some (vi (4 : Int32), σ)
  else
    z_g (z_kd σ r0 == 12) (if (z_i σ r0 9) = (45 : Int32) then
      some (vi (5 : Int32), σ)
    else
      z_g (z_kd σ r0 == 12) (if (z_i σ r0 9) = (42 : Int32) then
        some (vi (6 : Int32), σ)
      else
        z_g (z_kd σ r0 == 12) (if (z_i σ r0 9) = (47 : Int32) then
          some (vi (7 : Int32), σ)
        else
          z_g (z_kd σ r0 == 12) (if (z_i σ r0 9) = (37 : Int32) then
            some (vi (8 : Int32), σ)
          else
            z_g (z_kd σ r0 == 12) (z_bI (z_call d 90 [vr r0] σ) (fun v2 σ1 =>
            if v2 = 0 then
              some (vi (-1 : Int32), σ1)
            else
              z_g (z_kd σ1 r0 == 12) (z_bI (z_call d 92 [vr r0] σ1) (fun v4 σ3 =>
              if v4 = 0 then
                z_g (z_kd σ3 r0 == 12) (z_bI (z_call d 93 [vr r0] σ3) (fun v14 σ13 =>
                some (vi v14, σ13)))
              else
                z_bL (z_call d 82 [vi (97 : Int32), vi (110 : Int32), vi (100 : Int32)] σ3) (fun v6 σ5 =>
                z_g (z_kd σ5 r0 == 12) (z_bI (z_call d 86 [vr r0, vl v6] σ5) (fun v8 σ7 =>
                if v8 = 0 then
                  z_bL (z_call d 81 [vi (111 : Int32), vi (114 : Int32)] σ7) (fun v10 σ9 =>
                  z_g (z_kd σ9 r0 == 12) (z_bI (z_call d 86 [vr r0, vl v10] σ9) (fun v12 σ11 =>
                  if v12 = 0 then
                    some (vi (-1 : Int32), σ11)
                  else
                    some (vi (22 : Int32), σ11))))
                else
                  some (vi (21 : Int32), σ7))))))))))))) := (z_w_eq _ _ _ _ _ _).trans rfl
set_option maxRecDepth 100000 in
theorem e_M_emit (d : Nat) (r0 : Nat) (x1 : Int32) (x2 : Int32) (σ : ZM) : z_call (d + 1) 95 [vr r0, vi x1, vi x2] σ =
  z_g (z_kd σ r0 == 12) (z_g (z_kd σ r0 == 12) (z_g (z_kd σ r0 == 12) (z_g (z_at σ (z_r σ r0 2) 20 (((z_i σ r0 12) + (97 : Int32)) + ((2 : Int32) * (z_i σ r0 13))) && Nat.ble 10 (z_r σ r0 2)) (z_x (z_ui σ (z_r σ r0 2) (((z_i σ r0 12) + (97 : Int32)) + ((2 : Int32) * (z_i σ r0 13))).toNatClampNeg x1) (fun σ1 =>
  z_g (z_kd σ1 r0 == 12) (z_g (z_kd σ1 r0 == 12) (z_g (z_kd σ1 r0 == 12) (z_g (z_at σ1 (z_r σ1 r0 2) 20 ((((z_i σ1 r0 12) + (97 : Int32)) + ((2 : Int32) * (z_i σ1 r0 13))) + (1 : Int32)) && Nat.ble 10 (z_r σ1 r0 2)) (z_x (z_ui σ1 (z_r σ1 r0 2) ((((z_i σ1 r0 12) + (97 : Int32)) + ((2 : Int32) * (z_i σ1 r0 13))) + (1 : Int32)).toNatClampNeg x2) (fun σ2 =>
  z_g (z_kd σ2 r0 == 12) (z_g (z_kd σ2 r0 == 12) (z_x (z_ui σ2 r0 13 ((z_i σ2 r0 13) + (1 : Int32))) (fun σ3 =>
  some (vi 0, σ3)))))))))))))) := (z_w_eq _ _ _ _ _ _).trans rfl
set_option maxRecDepth 100000 in
theorem e_M_settle (d : Nat) (r0 : Nat) (x1 : Int32) (σ : ZM) : z_call (d + 1) 96 [vr r0, vi x1] σ =
  z_g (z_kd σ r0 == 12) (if 0 < (z_i σ r0 16) then
    z_g (z_kd σ r0 == 12) (z_g (z_kd σ r0 == 12) (z_g (z_at σ (z_r σ r0 15) 20 ((z_i σ r0 16) - (1 : Int32))) (z_bI (z_call d 91 [vi (z_i σ (z_r σ r0 15) ((z_i σ r0 16) - (1 : Int32)).toNatClampNeg)] σ) (fun v2 σ1 =>
    if v2 < x1 then
      some (vi 0, σ1)
    else
      z_g (z_kd σ1 r0 == 12) (z_g (z_kd σ1 r0 == 12) (z_x (z_ui σ1 r0 16 ((z_i σ1 r0 16) - (1 : Int32))) (fun σ3 =>
      z_g (z_kd σ3 r0 == 12) (z_g (z_kd σ3 r0 == 12) (z_g (z_at σ3 (z_r σ3 r0 15) 20 (z_i σ3 r0 16)) (z_g (z_kd σ3 r0 == 12) (z_bV (z_call d 95 [vr r0, vi (z_i σ3 (z_r σ3 r0 15) (z_i σ3 r0 16).toNatClampNeg), vi (0 : Int32)] σ3) (fun σ4 =>
      z_g (z_kd σ4 r0 == 12) (z_g (z_kd σ4 r0 == 12) (z_g (z_at σ4 (z_r σ4 r0 15) 20 (z_i σ4 r0 16)) (if (z_i σ4 (z_r σ4 r0 15) (z_i σ4 r0 16).toNatClampNeg) = (3 : Int32) then
        z_g (z_kd σ4 r0 == 12) (z_g (z_kd σ4 r0 == 12) (z_x (z_ui σ4 r0 17 ((z_i σ4 r0 17) - (1 : Int32))) (fun σ5 =>
        z_w d_M_settle (z_call d) 0 [some (vr r0), some (vi x1)] [] σ5)))
      else
        z_g (z_kd σ4 r0 == 12) (z_g (z_kd σ4 r0 == 12) (z_g (z_at σ4 (z_r σ4 r0 15) 20 (z_i σ4 r0 16)) (if (z_i σ4 (z_r σ4 r0 15) (z_i σ4 r0 16).toNatClampNeg) = (20 : Int32) then
          z_g (z_kd σ4 r0 == 12) (z_g (z_kd σ4 r0 == 12) (z_x (z_ui σ4 r0 17 ((z_i σ4 r0 17) - (1 : Int32))) (fun σ6 =>
          z_w d_M_settle (z_call d) 0 [some (vr r0), some (vi x1)] [] σ6)))
        else
          z_w d_M_settle (z_call d) 0 [some (vr r0), some (vi x1)] [] σ4))))))))))))))))))
  else
    some (vi 0, σ)) := (z_w_eq _ _ _ _ _ _).trans rfl
set_option maxRecDepth 100000 in
theorem e_M_settle_0 (cl : Nat → List ZV → ZM → ZR) (r0 : Nat) (x1 : Int32) (σ : ZM) : z_w d_M_settle cl 0 [some (vr r0), some (vi x1)] [] σ =
  z_g (z_kd σ r0 == 12) (if 0 < (z_i σ r0 16) then
    z_g (z_kd σ r0 == 12) (z_g (z_kd σ r0 == 12) (z_g (z_at σ (z_r σ r0 15) 20 ((z_i σ r0 16) - (1 : Int32))) (z_bI (cl 91 [vi (z_i σ (z_r σ r0 15) ((z_i σ r0 16) - (1 : Int32)).toNatClampNeg)] σ) (fun v2 σ1 =>
    if v2 < x1 then
      some (vi 0, σ1)
    else
      z_g (z_kd σ1 r0 == 12) (z_g (z_kd σ1 r0 == 12) (z_x (z_ui σ1 r0 16 ((z_i σ1 r0 16) - (1 : Int32))) (fun σ3 =>
      z_g (z_kd σ3 r0 == 12) (z_g (z_kd σ3 r0 == 12) (z_g (z_at σ3 (z_r σ3 r0 15) 20 (z_i σ3 r0 16)) (z_g (z_kd σ3 r0 == 12) (z_bV (cl 95 [vr r0, vi (z_i σ3 (z_r σ3 r0 15) (z_i σ3 r0 16).toNatClampNeg), vi (0 : Int32)] σ3) (fun σ4 =>
      z_g (z_kd σ4 r0 == 12) (z_g (z_kd σ4 r0 == 12) (z_g (z_at σ4 (z_r σ4 r0 15) 20 (z_i σ4 r0 16)) (if (z_i σ4 (z_r σ4 r0 15) (z_i σ4 r0 16).toNatClampNeg) = (3 : Int32) then
        z_g (z_kd σ4 r0 == 12) (z_g (z_kd σ4 r0 == 12) (z_x (z_ui σ4 r0 17 ((z_i σ4 r0 17) - (1 : Int32))) (fun σ5 =>
        z_w d_M_settle cl 0 [some (vr r0), some (vi x1)] [] σ5)))
      else
        z_g (z_kd σ4 r0 == 12) (z_g (z_kd σ4 r0 == 12) (z_g (z_at σ4 (z_r σ4 r0 15) 20 (z_i σ4 r0 16)) (if (z_i σ4 (z_r σ4 r0 15) (z_i σ4 r0 16).toNatClampNeg) = (20 : Int32) then
          z_g (z_kd σ4 r0 == 12) (z_g (z_kd σ4 r0 == 12) (z_x (z_ui σ4 r0 17 ((z_i σ4 r0 17) - (1 : Int32))) (fun σ6 =>
          z_w d_M_settle cl 0 [some (vr r0), some (vi x1)] [] σ6)))
        else
          z_w d_M_settle cl 0 [some (vr r0), some (vi x1)] [] σ4))))))))))))))))))
  else
    some (vi 0, σ)) := (z_w_eq _ _ _ _ _ _).trans rfl
set_option maxRecDepth 100000 in
theorem e_M_behindOne (d : Nat) (r0 : Nat) (σ : ZM) : z_call (d + 1) 97 [vr r0] σ =
  z_g (z_kd σ r0 == 12) (z_bI (z_call d 94 [vr r0] σ) (fun v2 σ1 =>
  if v2 < 0 then
    z_g (z_kd σ1 r0 == 12) (z_bI (z_call d 89 [vr r0] σ1) (fun v4 σ3 =>
    if v4 = (40 : Int32) then
      z_w d_M_behindOne (z_call d) 65 [some (vr r0), none, some (vi v4)] [] σ3
    else
      if v4 = (43 : Int32) then
        z_w d_M_behindOne (z_call d) 65 [some (vr r0), none, some (vi v4)] [] σ3
      else
        if v4 = (41 : Int32) then
          z_w d_M_behindOne (z_call d) 135 [some (vr r0), none, some (vi v4)] [] σ3
        else
          if v4 = (42 : Int32) then
            z_w d_M_behindOne (z_call d) 135 [some (vr r0), none, some (vi v4)] [] σ3
          else
            some (vi (0 : Int32), σ3)))
  else
    z_bI (z_call d 91 [vi v2] σ1) (fun v6 σ5 =>
    z_g (z_kd σ5 r0 == 12) (z_bV (z_call d 96 [vr r0, vi v6] σ5) (fun σ7 =>
    z_g (z_kd σ7 r0 == 12) (z_g (z_kd σ7 r0 == 12) (z_g (z_at σ7 (z_r σ7 r0 15) 20 (z_i σ7 r0 16) && Nat.ble 10 (z_r σ7 r0 15)) (z_x (z_ui σ7 (z_r σ7 r0 15) (z_i σ7 r0 16).toNatClampNeg v2) (fun σ8 =>
    z_g (z_kd σ8 r0 == 12) (z_g (z_kd σ8 r0 == 12) (z_x (z_ui σ8 r0 16 ((z_i σ8 r0 16) + (1 : Int32))) (fun σ9 =>
    z_g (z_kd σ9 r0 == 12) (z_x (z_ui σ9 r0 18 (0 : Int32)) (fun σ10 =>
    z_g (z_kd σ10 r0 == 12) (z_bV (z_call d 80 [vr r0] σ10) (fun σ11 =>
    some (vi (1 : Int32), σ11))))))))))))))))) := (z_w_eq _ _ _ _ _ _).trans rfl
set_option maxRecDepth 100000 in
theorem e_M_behindOne_65 (cl : Nat → List ZV → ZM → ZR) (r0 : Nat) (x2 : Int32) (σ : ZM) : z_w d_M_behindOne cl 65 [some (vr r0), none, some (vi x2)] [] σ =
  z_g (z_kd σ r0 == 12) (if (z_i σ r0 9) = (41 : Int32) then
    z_g (z_kd σ r0 == 12) (z_bV (cl 96 [vr r0, vi (1 : Int32)] σ) (fun σ1 =>
    z_g (z_kd σ1 r0 == 12) (z_g (z_kd σ1 r0 == 12) (z_x (z_ui σ1 r0 16 ((z_i σ1 r0 16) - (1 : Int32))) (fun σ2 =>
    z_g (z_kd σ2 r0 == 12) (z_g (z_kd σ2 r0 == 12) (z_x (z_ui σ2 r0 17 ((z_i σ2 r0 17) - (1 : Int32))) (fun σ3 =>
    if x2 = (43 : Int32) then
      z_g (z_kd σ3 r0 == 12) (z_bV (cl 95 [vr r0, vi (2 : Int32), vi (0 : Int32)] σ3) (fun σ6 =>
      z_g (z_kd σ6 r0 == 12) (z_bV (cl 80 [vr r0] σ6) (fun σ7 =>
      z_g (z_kd σ7 r0 == 12) (z_bV (cl 96 [vr r0, vi (7 : Int32)] σ7) (fun σ8 =>
      some (vi (1 : Int32), σ8)))))))
    else
      z_g (z_kd σ3 r0 == 12) (z_bV (cl 80 [vr r0] σ3) (fun σ4 =>
      z_g (z_kd σ4 r0 == 12) (z_bV (cl 96 [vr r0, vi (7 : Int32)] σ4) (fun σ5 =>
      some (vi (1 : Int32), σ5)))))))))))))
  else
    if x2 = (41 : Int32) then
      z_w d_M_behindOne cl 135 [some (vr r0), none, some (vi x2)] [] σ
    else
      if x2 = (42 : Int32) then
        z_w d_M_behindOne cl 135 [some (vr r0), none, some (vi x2)] [] σ
      else
        some (vi (0 : Int32), σ)) := (z_w_eq _ _ _ _ _ _).trans rfl
set_option maxRecDepth 100000 in
theorem e_M_behindOne_135 (cl : Nat → List ZV → ZM → ZR) (r0 : Nat) (x2 : Int32) (σ : ZM) : z_w d_M_behindOne cl 135 [some (vr r0), none, some (vi x2)] [] σ =
  z_g (z_kd σ r0 == 12) (if (z_i σ r0 9) = (44 : Int32) then
    z_g (z_kd σ r0 == 12) (z_bV (cl 96 [vr r0, vi (1 : Int32)] σ) (fun σ1 =>
    z_g (z_kd σ1 r0 == 12) (z_g (z_kd σ1 r0 == 12) (z_g (z_at σ1 (z_r σ1 r0 15) 20 ((z_i σ1 r0 16) - (1 : Int32)) && Nat.ble 10 (z_r σ1 r0 15)) (z_x (z_ui σ1 (z_r σ1 r0 15) ((z_i σ1 r0 16) - (1 : Int32)).toNatClampNeg (x2 + (1 : Int32))) (fun σ2 =>
    z_g (z_kd σ2 r0 == 12) (z_x (z_ui σ2 r0 18 (0 : Int32)) (fun σ3 =>
    z_g (z_kd σ3 r0 == 12) (z_bV (cl 80 [vr r0] σ3) (fun σ4 =>
    some (vi (1 : Int32), σ4)))))))))))
  else
    some (vi (0 : Int32), σ)) := (z_w_eq _ _ _ _ _ _).trans rfl
set_option maxRecDepth 100000 in
theorem e_M_nameOf (d : Nat) (r0 : Nat) (σ : ZM) : z_call (d + 1) 98 [vr r0] σ =
  z_g (z_kd σ r0 == 12) (if (z_i σ r0 9) = (2 : Int32) then
    z_g (z_kd σ r0 == 12) (z_bL (z_call d 83 [vi (98 : Int32), vi (101 : Int32), vi (97 : Int32), vi (116 : Int32)] σ) (fun v2 σ1 =>
    if (lg_cmp (z_l σ r0 11) v2) = 0 then
      some (vi (0 : Int32), σ1)
    else
      z_g (z_kd σ1 r0 == 12) (z_bL (z_call d 84 [vi (99 : Int32), vi (104 : Int32), vi (101 : Int32), vi (115 : Int32), vi (116 : Int32)] σ1) (fun v4 σ3 =>
      if (lg_cmp (z_l σ1 r0 11) v4) = 0 then
        some (vi (1 : Int32), σ3)
      else
        z_g (z_kd σ3 r0 == 12) (z_bL (z_call d 84 [vi (112 : Int32), vi (117 : Int32), vi (108 : Int32), vi (115 : Int32), vi (101 : Int32)] σ3) (fun v6 σ5 =>
        if (lg_cmp (z_l σ3 r0 11) v6) = 0 then
          some (vi (2 : Int32), σ5)
        else
          z_g (z_kd σ5 r0 == 12) (z_bL (z_call d 83 [vi (116 : Int32), vi (105 : Int32), vi (109 : Int32), vi (101 : Int32)] σ5) (fun v8 σ7 =>
          if (lg_cmp (z_l σ5 r0 11) v8) = 0 then
            some (vi (3 : Int32), σ7)
          else
            z_g (z_kd σ7 r0 == 12) (z_bL (z_call d 84 [vi (98 : Int32), vi (108 : Int32), vi (111 : Int32), vi (99 : Int32), vi (107 : Int32)] σ7) (fun v10 σ9 =>
            if (lg_cmp (z_l σ7 r0 11) v10) = 0 then
              some (vi (4 : Int32), σ9)
            else
              z_g (z_kd σ9 r0 == 12) (z_bL (z_call d 85 [vi (97 : Int32), vi (115 : Int32), vi (108 : Int32), vi (101 : Int32), vi (101 : Int32), vi (112 : Int32)] σ9) (fun v12 σ11 =>
              if (lg_cmp (z_l σ9 r0 11) v12) = 0 then
                some (vi (5 : Int32), σ11)
              else
                z_g (z_kd σ11 r0 == 12) (z_bL (z_call d 82 [vi (108 : Int32), vi (97 : Int32), vi (103 : Int32)] σ11) (fun v14 σ13 =>
                if (lg_cmp (z_l σ11 r0 11) v14) = 0 then
                  some (vi (6 : Int32), σ13)
                else
                  z_g (z_kd σ13 r0 == 12) (z_bL (z_call d 82 [vi (97 : Int32), vi (105 : Int32), vi (114 : Int32)] σ13) (fun v16 σ15 =>
                  if (lg_cmp (z_l σ13 r0 11) v16) = 0 then
                    some (vi (7 : Int32), σ15)
                  else
                    z_g (z_kd σ15 r0 == 12) (z_bL (z_call d 83 [vi (104 : Int32), vi (105 : Int32), vi (103 : Int32), vi (104 : Int32)] σ15) (fun v18 σ17 =>
                    if (lg_cmp (z_l σ15 r0 11) v18) = 0 then
                      some (vi (8 : Int32), σ17)
                    else
                      z_g (z_kd σ17 r0 == 12) (z_bL (z_call d 83 [vi (110 : Int32), vi (111 : Int32), vi (116 : Int32), vi (101 : Int32)] σ17) (fun v20 σ19 =>
                      if (lg_cmp (z_l σ17 r0 11) v20) = 0 then
                        some (vi (9 : Int32), σ19)
                      else
                        some (vi (-1 : Int32), σ19)))))))))))))))))))))
  else
    some (vi (-1 : Int32), σ)) := (z_w_eq _ _ _ _ _ _).trans rfl
set_option maxRecDepth 100000 in
theorem e_M_isOf (d : Nat) (r0 : Nat) (x1 : Int32) (σ : ZM) : z_call (d + 1) 99 [vr r0, vi x1] σ =
  if x1 = 0 then
    some (vi (1 : Int32), σ)
  else
    if x1 < (6 : Int32) then
      z_g (z_kd σ r0 == 12) (if (z_i σ r0 14) = (2 : Int32) then
        some (vi (0 : Int32), σ)
      else
        some (vi (1 : Int32), σ))
    else
      if x1 = (6 : Int32) then
        z_g (z_kd σ r0 == 12) (if (z_i σ r0 14) = (1 : Int32) then
          some (vi (1 : Int32), σ)
        else
          some (vi (0 : Int32), σ))
      else
        z_g (z_kd σ r0 == 12) (if (z_i σ r0 14) = (2 : Int32) then
          some (vi (1 : Int32), σ)
        else
          some (vi (0 : Int32), σ)) := (z_w_eq _ _ _ _ _ _).trans rfl
set_option maxRecDepth 100000 in
theorem e_M_opened (d : Nat) (r0 : Nat) (x1 : Int32) (σ : ZM) : z_call (d + 1) 100 [vr r0, vi x1] σ =
  z_g (z_kd σ r0 == 12) (if (z_i σ r0 17) = (8 : Int32) then
    some (vi (3 : Int32), σ)
  else
    z_g (z_kd σ r0 == 12) (z_g (z_kd σ r0 == 12) (z_x (z_ui σ r0 17 ((z_i σ r0 17) + (1 : Int32))) (fun σ1 =>
    z_g (z_kd σ1 r0 == 12) (z_g (z_kd σ1 r0 == 12) (z_g (z_at σ1 (z_r σ1 r0 15) 20 (z_i σ1 r0 16) && Nat.ble 10 (z_r σ1 r0 15)) (z_x (z_ui σ1 (z_r σ1 r0 15) (z_i σ1 r0 16).toNatClampNeg x1) (fun σ2 =>
    z_g (z_kd σ2 r0 == 12) (z_g (z_kd σ2 r0 == 12) (z_x (z_ui σ2 r0 16 ((z_i σ2 r0 16) + (1 : Int32))) (fun σ3 =>
    z_g (z_kd σ3 r0 == 12) (z_bV (z_call d 80 [vr r0] σ3) (fun σ4 =>
    if x1 = (41 : Int32) then
      z_g (z_kd σ4 r0 == 12) (if (z_i σ4 r0 9) = (40 : Int32) then
        z_g (z_kd σ4 r0 == 12) (z_bV (z_call d 80 [vr r0] σ4) (fun σ5 =>
        some (vi (0 : Int32), σ5)))
      else
        some (vi (1 : Int32), σ4))
    else
      some (vi (0 : Int32), σ4)))))))))))))) := (z_w_eq _ _ _ _ _ _).trans rfl
set_option maxRecDepth 100000 in
theorem e_M_isAskAhead (d : Nat) (r0 : Nat) (σ : ZM) : z_call (d + 1) 101 [vr r0] σ =
  z_g (z_kd σ r0 == 12) (z_bI (z_call d 90 [vr r0] σ) (fun v2 σ1 =>
  if v2 = 0 then
    some (vi (0 : Int32), σ1)
  else
    z_g (z_kd σ1 r0 == 12) (if (z_i σ1 r0 16) = 0 then
      some (vi (1 : Int32), σ1)
    else
      z_g (z_kd σ1 r0 == 12) (z_g (z_kd σ1 r0 == 12) (z_g (z_at σ1 (z_r σ1 r0 15) 20 ((z_i σ1 r0 16) - (1 : Int32))) (z_bI (z_call d 91 [vi (z_i σ1 (z_r σ1 r0 15) ((z_i σ1 r0 16) - (1 : Int32)).toNatClampNeg)] σ1) (fun v4 σ3 =>
      z_bI (z_call d 19 [vi v4, vi (1 : Int32), vi (3 : Int32)] σ3) (fun v6 σ5 =>
      if v6 = 0 then
        some (vi (0 : Int32), σ5)
      else
        some (vi (1 : Int32), σ5))))))))) := (z_w_eq _ _ _ _ _ _).trans rfl
set_option maxRecDepth 100000 in
theorem e_M_beginOne (d : Nat) (r0 : Nat) (σ : ZM) : z_call (d + 1) 102 [vr r0] σ =
  z_g (z_kd σ r0 == 12) (if (z_i σ r0 9) = (1 : Int32) then
    z_g (z_kd σ r0 == 12) (if (9999 : Int32) < (z_i σ r0 10) then
      some (vi (2 : Int32), σ)
    else
      z_g (z_kd σ r0 == 12) (z_bI (z_call d 98 [vr r0] σ) (fun v6 σ5 =>
      if v6 < 0 then
        z_w d_M_beginOne (z_call d) 39 [some (vr r0), some (vi v6)] [] σ5
      else
        z_g (z_kd σ5 r0 == 12) (z_bI (z_call d 99 [vr r0, vi v6] σ5) (fun v8 σ7 =>
        if v8 = 0 then
          some (vi (5 : Int32), σ7)
        else
          z_w d_M_beginOne (z_call d) 39 [some (vr r0), some (vi v6)] [] σ7)))))
  else
    z_g (z_kd σ r0 == 12) (z_bI (z_call d 98 [vr r0] σ) (fun v2 σ1 =>
    if v2 < 0 then
      z_w d_M_beginOne (z_call d) 39 [some (vr r0), some (vi v2)] [] σ1
    else
      z_g (z_kd σ1 r0 == 12) (z_bI (z_call d 99 [vr r0, vi v2] σ1) (fun v4 σ3 =>
      if v4 = 0 then
        some (vi (5 : Int32), σ3)
      else
        z_w d_M_beginOne (z_call d) 39 [some (vr r0), some (vi v2)] [] σ3))))) := (z_w_eq _ _ _ _ _ _).trans rfl
set_option maxRecDepth 100000 in
theorem e_M_beginOne_39 (cl : Nat → List ZV → ZM → ZR) (r0 : Nat) (x1 : Int32) (σ : ZM) : z_w d_M_beginOne cl 39 [some (vr r0), some (vi x1)] [] σ =
  z_g (z_kd σ r0 == 12) (if (z_i σ r0 9) = (1 : Int32) then
    z_g (z_kd σ r0 == 12) (if (z_i σ r0 9) = (1 : Int32) then
      z_w d_M_beginOne cl 65 [some (vr r0), some (vi x1)] [vi (0 : Int32), vr r0] σ
    else
      z_w d_M_beginOne cl 65 [some (vr r0), some (vi x1)] [vi (1 : Int32), vr r0] σ)
  else
    if x1 < 0 then
      z_g (z_kd σ r0 == 12) (if (z_i σ r0 9) = (40 : Int32) then
        z_g (z_kd σ r0 == 12) (z_bI (cl 100 [vr r0, vi (40 : Int32)] σ) (fun v18 σ17 =>
        some (vi v18, σ17)))
      else
        z_g (z_kd σ r0 == 12) (if (z_i σ r0 9) = (45 : Int32) then
          z_g (z_kd σ r0 == 12) (z_bI (cl 100 [vr r0, vi (3 : Int32)] σ) (fun v16 σ15 =>
          some (vi v16, σ15)))
        else
          z_bL (cl 85 [vi (109 : Int32), vi (105 : Int32), vi (100 : Int32), vi (100 : Int32), vi (108 : Int32), vi (101 : Int32)] σ) (fun v2 σ1 =>
          z_g (z_kd σ1 r0 == 12) (z_bI (cl 86 [vr r0, vl v2] σ1) (fun v4 σ3 =>
          if v4 = 0 then
            z_bL (cl 82 [vi (110 : Int32), vi (111 : Int32), vi (116 : Int32)] σ3) (fun v6 σ5 =>
            z_g (z_kd σ5 r0 == 12) (z_bI (cl 86 [vr r0, vl v6] σ5) (fun v8 σ7 =>
            if v8 = 0 then
              some (vi (1 : Int32), σ7)
            else
              z_g (z_kd σ7 r0 == 12) (z_bI (cl 101 [vr r0] σ7) (fun v10 σ9 =>
              if v10 = 0 then
                some (vi (1 : Int32), σ9)
              else
                z_g (z_kd σ9 r0 == 12) (z_bI (cl 100 [vr r0, vi (20 : Int32)] σ9) (fun v12 σ11 =>
                some (vi v12, σ11))))))))
          else
            z_g (z_kd σ3 r0 == 12) (z_bI (cl 100 [vr r0, vi (41 : Int32)] σ3) (fun v14 σ13 =>
            some (vi v14, σ13))))))))
    else
      z_g (z_kd σ r0 == 12) (if (z_i σ r0 9) = (1 : Int32) then
        z_w d_M_beginOne cl 65 [some (vr r0), some (vi x1)] [vi (0 : Int32), vr r0] σ
      else
        z_w d_M_beginOne cl 65 [some (vr r0), some (vi x1)] [vi (1 : Int32), vr r0] σ)) := (z_w_eq _ _ _ _ _ _).trans rfl
set_option maxRecDepth 100000 in
theorem e_M_beginOne_65 (cl : Nat → List ZV → ZM → ZR) (r0 : Nat) (x1 : Int32) (s0 : Nat) (s1 : Int32) (σ : ZM) : z_w d_M_beginOne cl 65 [some (vr r0), some (vi x1)] [vi s1, vr s0] σ =
  z_g (z_kd σ r0 == 12) (if (z_i σ r0 9) = (1 : Int32) then
    z_g (z_kd σ r0 == 12) (z_g (z_kd σ s0 == 12) (z_bV (cl 95 [vr s0, vi s1, vi (z_i σ r0 10)] σ) (fun σ5 =>
    z_g (z_kd σ5 r0 == 12) (z_bV (cl 80 [vr r0] σ5) (fun σ6 =>
    z_g (z_kd σ6 r0 == 12) (z_x (z_ui σ6 r0 18 (1 : Int32)) (fun σ7 =>
    z_g (z_kd σ7 r0 == 12) (z_bV (cl 96 [vr r0, vi (7 : Int32)] σ7) (fun σ8 =>
    some (vi (0 : Int32), σ8))))))))))
  else
    z_g (z_kd σ s0 == 12) (z_bV (cl 95 [vr s0, vi s1, vi x1] σ) (fun σ1 =>
    z_g (z_kd σ1 r0 == 12) (z_bV (cl 80 [vr r0] σ1) (fun σ2 =>
    z_g (z_kd σ2 r0 == 12) (z_x (z_ui σ2 r0 18 (1 : Int32)) (fun σ3 =>
    z_g (z_kd σ3 r0 == 12) (z_bV (cl 96 [vr r0, vi (7 : Int32)] σ3) (fun σ4 =>
    some (vi (0 : Int32), σ4)))))))))) := (z_w_eq _ _ _ _ _ _).trans rfl
set_option maxRecDepth 100000 in
theorem e_M_parsed (d : Nat) (r0 : Nat) (x1 : Int32) (σ : ZM) : z_call (d + 1) 103 [vr r0, vi x1] σ =
  z_g (z_kd σ r0 == 12) (z_x (z_ui σ r0 16 (0 : Int32)) (fun σ1 =>
  z_g (z_kd σ1 r0 == 12) (z_x (z_ui σ1 r0 17 (0 : Int32)) (fun σ2 =>
  z_g (z_kd σ2 r0 == 12) (z_x (z_ui σ2 r0 18 (0 : Int32)) (fun σ3 =>
  z_g (z_fit 1 x1 && (z_kd σ3 r0 == 12)) (z_x (z_ui σ3 r0 19 x1) (fun σ4 =>
  z_w d_M_parsed (z_call d) 20 [some (vr r0), some (vi x1), none] [] σ4)))))))) := (z_w_eq _ _ _ _ _ _).trans rfl
set_option maxRecDepth 100000 in
theorem e_M_parsed_20 (cl : Nat → List ZV → ZM → ZR) (r0 : Nat) (x1 : Int32) (σ : ZM) : z_w d_M_parsed cl 20 [some (vr r0), some (vi x1), none] [] σ =
  z_g (z_kd σ r0 == 12) (if (z_i σ r0 18) = 0 then
    z_g (z_kd σ r0 == 12) (z_bI (cl 102 [vr r0] σ) (fun v2 σ1 =>
    if v2 = 0 then
      z_w d_M_parsed cl 20 [some (vr r0), some (vi x1), none] [] σ1
    else
      some (vi v2, σ1)))
  else
    z_g (z_kd σ r0 == 12) (z_bI (cl 97 [vr r0] σ) (fun v4 σ3 =>
    if v4 = 0 then
      z_g (z_kd σ3 r0 == 12) (z_bI (cl 89 [vr r0] σ3) (fun v6 σ5 =>
      if v6 < 0 then
        if x1 = 0 then
          z_g (z_kd σ5 r0 == 12) (z_bV (cl 96 [vr r0, vi (1 : Int32)] σ5) (fun σ7 =>
          some (vi (0 : Int32), σ7)))
        else
          z_g (z_kd σ5 r0 == 12) (z_bI (cl 92 [vr r0] σ5) (fun v9 σ8 =>
          if v9 = 0 then
            some (vi (1 : Int32), σ8)
          else
            z_g (z_kd σ8 r0 == 12) (z_bV (cl 96 [vr r0, vi (1 : Int32)] σ8) (fun σ10 =>
            some (vi (0 : Int32), σ10)))))
      else
        some (vi (1 : Int32), σ5)))
    else
      z_w d_M_parsed cl 20 [some (vr r0), some (vi x1), none] [] σ3))) := (z_w_eq _ _ _ _ _ _).trans rfl
set_option maxRecDepth 100000 in
theorem e_M_lawClause (d : Nat) (r0 : Nat) (x1 : Int32) (x2 : Int32) (σ : ZM) : z_call (d + 1) 104 [vr r0, vi x1, vi x2] σ =
  z_g (z_kd σ r0 == 12) (z_g (z_kd σ r0 == 12) (z_g (z_at σ (z_r σ r0 2) 20 (x1 + (1 : Int32)) && Nat.ble 10 (z_r σ r0 2)) (z_x (z_ui σ (z_r σ r0 2) (x1 + (1 : Int32)).toNatClampNeg (z_i σ r0 13)) (fun σ1 =>
  z_g (z_kd σ1 r0 == 12) (z_bI (z_call d 103 [vr r0, vi x2] σ1) (fun v3 σ2 =>
  z_g (z_kd σ2 r0 == 12) (z_g (z_kd σ2 r0 == 12) (z_g (z_at σ2 (z_r σ2 r0 2) 20 (x1 + (2 : Int32)) && Nat.ble 10 (z_r σ2 r0 2)) (z_x (z_ui σ2 (z_r σ2 r0 2) (x1 + (2 : Int32)).toNatClampNeg (z_i σ2 r0 13)) (fun σ4 =>
  some (vi v3, σ4))))))))))) := (z_w_eq _ _ _ _ _ _).trans rfl
set_option maxRecDepth 100000 in
theorem e_M_figure (d : Nat) (r0 : Nat) (x1 : Int32) (x2 : Int32) (x3 : Int32) (σ : ZM) : z_call (d + 1) 105 [vr r0, vi x1, vi x2, vi x3] σ =
  z_g (z_kd σ r0 == 12) (if (z_i σ r0 9) = (1 : Int32) then
    z_g (z_kd σ r0 == 12) (z_bI (z_call d 19 [vi (z_i σ r0 10), vi x2, vi x3] σ) (fun v2 σ1 =>
    if v2 = 0 then
      some (vi (2 : Int32), σ1)
    else
      z_g (z_kd σ1 r0 == 12) (z_g (z_kd σ1 r0 == 12) (z_g (z_at σ1 (z_r σ1 r0 2) 20 x1 && Nat.ble 10 (z_r σ1 r0 2)) (z_x (z_ui σ1 (z_r σ1 r0 2) x1.toNatClampNeg (z_i σ1 r0 10)) (fun σ3 =>
      z_g (z_kd σ3 r0 == 12) (z_bV (z_call d 80 [vr r0] σ3) (fun σ4 =>
      some (vi (0 : Int32), σ4)))))))))
  else
    some (vi (1 : Int32), σ)) := (z_w_eq _ _ _ _ _ _).trans rfl
set_option maxRecDepth 100000 in
theorem e_M_worded (d : Nat) (r0 : Nat) (x1 : Int64) (x3 : Int32) (x4 : Int32) (x5 : Int32) (σ : ZM) : z_call (d + 1) 106 [vr r0, vl x1, vi x3, vi x4, vi x5] σ =
  z_g (z_kd σ r0 == 12) (z_bI (z_call d 86 [vr r0, vl x1] σ) (fun v2 σ1 =>
  if v2 = 0 then
    some (vi (1 : Int32), σ1)
  else
    z_g (z_kd σ1 r0 == 12) (z_bV (z_call d 80 [vr r0] σ1) (fun σ3 =>
    z_g (z_kd σ3 r0 == 12) (z_bI (z_call d 105 [vr r0, vi x3, vi x4, vi x5] σ3) (fun v5 σ4 =>
    some (vi v5, σ4))))))) := (z_w_eq _ _ _ _ _ _).trans rfl
set_option maxRecDepth 100000 in
theorem e_M_pair (d : Nat) (r0 : Nat) (x1 : Int32) (x2 : Int32) (x3 : Int64) (x5 : Int32) (σ : ZM) : z_call (d + 1) 107 [vr r0, vi x1, vi x2, vl x3, vi x5] σ =
  z_g (z_kd σ r0 == 12) (z_bI (z_call d 105 [vr r0, vi (x1 + (1 : Int32)), vi (0 : Int32), vi x2] σ) (fun v2 σ1 =>
  if v2 = 0 then
    z_g (z_kd σ1 r0 == 12) (z_bI (z_call d 106 [vr r0, vl x3, vi (x1 + (2 : Int32)), vi (0 : Int32), vi x5] σ1) (fun v4 σ3 =>
    some (vi v4, σ3)))
  else
    some (vi v2, σ1))) := (z_w_eq _ _ _ _ _ _).trans rfl
set_option maxRecDepth 100000 in
theorem e_M_oneClause (d : Nat) (r0 : Nat) (x1 : Int32) (σ : ZM) : z_call (d + 1) 108 [vr r0, vi x1] σ =
  z_g (z_kd σ r0 == 12) (z_bI (z_call d 105 [vr r0, vi (x1 + (1 : Int32)), vi (1 : Int32), vi (9 : Int32)] σ) (fun v2 σ1 =>
  if v2 = 0 then
    z_bL (z_call d 84 [vi (112 : Int32), vi (117 : Int32), vi (108 : Int32), vi (115 : Int32), vi (101 : Int32)] σ1) (fun v8 σ7 =>
    z_g (z_kd σ7 r0 == 12) (z_bI (z_call d 106 [vr r0, vl v8, vi (x1 + (2 : Int32)), vi (1 : Int32), vi (9 : Int32)] σ7) (fun v10 σ9 =>
    if v10 = 0 then
      z_bL (z_call d 84 [vi (115 : Int32), vi (116 : Int32), vi (97 : Int32), vi (114 : Int32), vi (116 : Int32)] σ9) (fun v12 σ11 =>
      z_g (z_kd σ11 r0 == 12) (z_bI (z_call d 106 [vr r0, vl v12, vi (x1 + (3 : Int32)), vi (0 : Int32), vi (17 : Int32)] σ11) (fun v14 σ13 =>
      some (vi v14, σ13))))
    else
      some (vi v10, σ9))))
  else
    if v2 = 0 then
      z_bL (z_call d 84 [vi (115 : Int32), vi (116 : Int32), vi (97 : Int32), vi (114 : Int32), vi (116 : Int32)] σ1) (fun v4 σ3 =>
      z_g (z_kd σ3 r0 == 12) (z_bI (z_call d 106 [vr r0, vl v4, vi (x1 + (3 : Int32)), vi (0 : Int32), vi (17 : Int32)] σ3) (fun v6 σ5 =>
      some (vi v6, σ5))))
    else
      some (vi v2, σ1))) := (z_w_eq _ _ _ _ _ _).trans rfl
set_option maxRecDepth 100000 in
theorem e_M_body (d : Nat) (r0 : Nat) (x1 : Int32) (x2 : Int32) (σ : ZM) : z_call (d + 1) 109 [vr r0, vi x1, vi x2] σ =
  if x1 = (0 : Int32) then
    z_g (z_kd σ r0 == 12) (z_bI (z_call d 104 [vr r0, vi x2, vi (0 : Int32)] σ) (fun v2 σ1 =>
    some (vi v2, σ1)))
  else if x1 = (1 : Int32) then
    z_g (z_kd σ r0 == 12) (z_bI (z_call d 104 [vr r0, vi x2, vi (0 : Int32)] σ) (fun v4 σ3 =>
    some (vi v4, σ3)))
  else if x1 = (2 : Int32) then
    z_g (z_kd σ r0 == 12) (z_bI (z_call d 104 [vr r0, vi x2, vi (1 : Int32)] σ) (fun v6 σ5 =>
    some (vi v6, σ5)))
  else if x1 = (3 : Int32) then
    z_bL (z_call d 82 [vi (108 : Int32), vi (97 : Int32), vi (103 : Int32)] σ) (fun v8 σ7 =>
    z_g (z_kd σ7 r0 == 12) (z_bI (z_call d 107 [vr r0, vi x2, vi (3 : Int32), vl v8, vi (9 : Int32)] σ7) (fun v10 σ9 =>
    some (vi v10, σ9))))
  else if x1 = (4 : Int32) then
    z_g (z_kd σ r0 == 12) (z_bI (z_call d 108 [vr r0, vi x2] σ) (fun v12 σ11 =>
    some (vi v12, σ11)))
  else if x1 = (5 : Int32) then
    z_bL (z_call d 83 [vi (104 : Int32), vi (105 : Int32), vi (103 : Int32), vi (104 : Int32)] σ) (fun v14 σ13 =>
    z_g (z_kd σ13 r0 == 12) (z_bI (z_call d 107 [vr r0, vi x2, vi (9999 : Int32), vl v14, vi (99 : Int32)] σ13) (fun v16 σ15 =>
    some (vi v16, σ15))))
  else if x1 = (6 : Int32) then
    z_bL (z_call d 81 [vi (111 : Int32), vi (110 : Int32)] σ) (fun v18 σ17 =>
    z_g (z_kd σ17 r0 == 12) (z_bI (z_call d 107 [vr r0, vi x2, vi (9 : Int32), vl v18, vi (9 : Int32)] σ17) (fun v20 σ19 =>
    some (vi v20, σ19))))
  else if x1 = (7 : Int32) then
    z_g (z_kd σ r0 == 12) (z_bI (z_call d 105 [vr r0, vi (x2 + (1 : Int32)), vi (0 : Int32), vi (9 : Int32)] σ) (fun v22 σ21 =>
    some (vi v22, σ21)))
  else if x1 = (8 : Int32) then
    z_g (z_kd σ r0 == 12) (z_bI (z_call d 105 [vr r0, vi (x2 + (1 : Int32)), vi (0 : Int32), vi (9 : Int32)] σ) (fun v24 σ23 =>
    some (vi v24, σ23)))
  else if x1 = (9 : Int32) then
    z_g (z_kd σ r0 == 12) (z_bI (z_call d 105 [vr r0, vi (x2 + (1 : Int32)), vi (0 : Int32), vi (9 : Int32)] σ) (fun v26 σ25 =>
    some (vi v26, σ25)))
  else if x1 = (10 : Int32) then
    z_g (z_kd σ r0 == 12) (z_bI (z_call d 105 [vr r0, vi (x2 + (1 : Int32)), vi (0 : Int32), vi (3 : Int32)] σ) (fun v28 σ27 =>
    some (vi v28, σ27)))
  else if x1 = (11 : Int32) then
    z_g (z_kd σ r0 == 12) (z_bI (z_call d 105 [vr r0, vi (x2 + (1 : Int32)), vi (0 : Int32), vi (9 : Int32)] σ) (fun v30 σ29 =>
    some (vi v30, σ29)))
  else if x1 = (12 : Int32) then
    z_g (z_kd σ r0 == 12) (z_bI (z_call d 105 [vr r0, vi (x2 + (1 : Int32)), vi (1 : Int32), vi (999 : Int32)] σ) (fun v32 σ31 =>
    some (vi v32, σ31)))
  else z_g (z_kd σ r0 == 12) (z_bI (z_call d 105 [vr r0, vi (x2 + (1 : Int32)), vi (0 : Int32), vi (9 : Int32)] σ) (fun v34 σ33 =>
    some (vi v34, σ33))) := (z_w_eq _ _ _ _ _ _).trans rfl
set_option maxRecDepth 100000 in
theorem e_M_clause (d : Nat) (r0 : Nat) (σ : ZM) : z_call (d + 1) 110 [vr r0] σ =
  z_g (z_kd σ r0 == 12) (z_bI (z_call d 87 [vr r0] σ) (fun v2 σ1 =>
  if v2 < 0 then
    some (vi (1 : Int32), σ1)
  else
    if (2 : Int32) < v2 then
      z_g (z_kd σ1 r0 == 12) (z_g (z_kd σ1 r0 == 12) (z_g (z_at σ1 (z_r σ1 r0 2) 20 (z_i σ1 r0 12)) (z_x (z_i σ1 (z_r σ1 r0 2) (z_i σ1 r0 12).toNatClampNeg) (fun u3 => if u3 = (24 : Int32) then
        some (vi (6 : Int32), σ1)
      else
        if (2 : Int32) < v2 then
          z_w d_M_clause (z_call d) 65 [some (vr r0), some (vi v2), some (vi u3), none, none] [] σ1
        else
          z_g (z_kd σ1 r0 == 12) (z_g (z_kd σ1 r0 == 12) (z_x (z_ui σ1 r0 20 ((z_i σ1 r0 20) ||| ((1 : Int32) <<< (v2 &&& 31)))) (fun σ4 =>
          z_w d_M_clause (z_call d) 65 [some (vr r0), some (vi v2), some (vi u3), none, none] [] σ4)))))))
    else
      z_g (z_kd σ1 r0 == 12) (z_bI (z_call d 88 [vi (z_i σ1 r0 20), vi v2] σ1) (fun v6 σ5 =>
      if v6 = 0 then
        z_g (z_kd σ5 r0 == 12) (z_g (z_kd σ5 r0 == 12) (z_g (z_at σ5 (z_r σ5 r0 2) 20 (z_i σ5 r0 12)) (z_x (z_i σ5 (z_r σ5 r0 2) (z_i σ5 r0 12).toNatClampNeg) (fun u7 => if u7 = (24 : Int32) then
          some (vi (6 : Int32), σ5)
        else
          if (2 : Int32) < v2 then
            z_w d_M_clause (z_call d) 65 [some (vr r0), some (vi v2), some (vi u7), none, none] [] σ5
          else
            z_g (z_kd σ5 r0 == 12) (z_g (z_kd σ5 r0 == 12) (z_x (z_ui σ5 r0 20 ((z_i σ5 r0 20) ||| ((1 : Int32) <<< (v2 &&& 31)))) (fun σ8 =>
            z_w d_M_clause (z_call d) 65 [some (vr r0), some (vi v2), some (vi u7), none, none] [] σ8)))))))
      else
        some (vi (4 : Int32), σ5))))) := (z_w_eq _ _ _ _ _ _).trans rfl
set_option maxRecDepth 100000 in
theorem e_M_clause_65 (cl : Nat → List ZV → ZM → ZR) (r0 : Nat) (x1 : Int32) (x2 : Int32) (σ : ZM) : z_w d_M_clause cl 65 [some (vr r0), some (vi x1), some (vi x2), none, none] [] σ =
  z_g (z_kd σ r0 == 12) (z_x (z_ui σ r0 14 x1) (fun σ1 =>
  z_g (z_kd σ1 r0 == 12) (z_bV (cl 80 [vr r0] σ1) (fun σ2 =>
  z_g (z_kd σ2 r0 == 12) (z_x (((z_i σ2 r0 12) + (1 : Int32)) + ((4 : Int32) * x2)) (fun u3 => z_g (z_kd σ2 r0 == 12) (z_g (z_at σ2 (z_r σ2 r0 2) 20 u3 && Nat.ble 10 (z_r σ2 r0 2)) (z_x (z_ui σ2 (z_r σ2 r0 2) u3.toNatClampNeg x1) (fun σ4 =>
  z_g (z_kd σ4 r0 == 12) (z_bI (cl 109 [vr r0, vi x1, vi u3] σ4) (fun v6 σ5 =>
  if v6 = 0 then
    z_g (z_kd σ5 r0 == 12) (z_g (z_kd σ5 r0 == 12) (z_x (z_r σ5 r0 2) (fun u7 => z_x (z_i σ5 r0 12) (fun u8 => z_g (z_at σ5 u7 20 u8) (z_g (z_at σ5 u7 20 u8 && Nat.ble 10 u7) (z_x (z_ui σ5 u7 u8.toNatClampNeg ((z_i σ5 u7 u8.toNatClampNeg) + (1 : Int32))) (fun σ9 =>
    z_g (z_kd σ9 r0 == 12) (if (z_i σ9 r0 9) = (59 : Int32) then
      z_g (z_kd σ9 r0 == 12) (z_bV (cl 80 [vr r0] σ9) (fun σ10 =>
      some (vi (0 : Int32), σ10)))
    else
      some (vi (1 : Int32), σ9)))))))))
  else
    some (vi v6, σ5)))))))))))) := (z_w_eq _ _ _ _ _ _).trans rfl
set_option maxRecDepth 100000 in
theorem e_M_readText (d : Nat) (r0 : Nat) (σ : ZM) : z_call (d + 1) 111 [vr r0] σ =
  z_g (z_kd σ r0 == 12) (z_g (z_at σ (z_r σ r0 0) 20 (5 : Int32)) (z_g (z_kd σ r0 == 12) (z_x (z_ui σ r0 12 ((705 : Int32) * (z_i σ (z_r σ r0 0) (5 : Int32).toNatClampNeg))) (fun σ1 =>
  z_g (z_kd σ1 r0 == 12) (z_g (z_kd σ1 r0 == 12) (z_g (z_at σ1 (z_r σ1 r0 2) 20 (z_i σ1 r0 12) && Nat.ble 10 (z_r σ1 r0 2)) (z_x (z_ui σ1 (z_r σ1 r0 2) (z_i σ1 r0 12).toNatClampNeg (0 : Int32)) (fun σ2 =>
  z_g (z_kd σ2 r0 == 12) (z_x (z_ui σ2 r0 13 (0 : Int32)) (fun σ3 =>
  z_g (z_kd σ3 r0 == 12) (z_x (z_ui σ3 r0 20 (0 : Int32)) (fun σ4 =>
  z_g (z_kd σ4 r0 == 12) (z_x (z_ui σ4 r0 7 (0 : Int32)) (fun σ5 =>
  z_g (z_kd σ5 r0 == 12) (z_bV (z_call d 80 [vr r0] σ5) (fun σ6 =>
  z_w d_M_readText (z_call d) 43 [some (vr r0), none] [] σ6)))))))))))))))) := (z_w_eq _ _ _ _ _ _).trans rfl
set_option maxRecDepth 100000 in
theorem e_M_readText_43 (cl : Nat → List ZV → ZM → ZR) (r0 : Nat) (σ : ZM) : z_w d_M_readText cl 43 [some (vr r0), none] [] σ =
  z_g (z_kd σ r0 == 12) (if (z_i σ r0 9) = 0 then
    some (vi (0 : Int32), σ)
  else
    z_g (z_kd σ r0 == 12) (z_bI (cl 110 [vr r0] σ) (fun v2 σ1 =>
    if v2 = 0 then
      z_w d_M_readText cl 43 [some (vr r0), none] [] σ1
    else
      some (vi v2, σ1)))) := (z_w_eq _ _ _ _ _ _).trans rfl
set_option maxRecDepth 100000 in
theorem e_M_text (d : Nat) (r0 : Nat) (σ : ZM) : z_call (d + 1) 112 [vr r0] σ =
  z_g (z_kd σ r0 == 12) (z_g (z_at σ (z_r σ r0 0) 20 (5 : Int32)) (if (z_i σ (z_r σ r0 0) (5 : Int32).toNatClampNeg) = (4 : Int32) then
    some (vi (-1 : Int32), σ)
  else
    z_g (z_kd σ r0 == 12) (z_bI (z_call d 111 [vr r0] σ) (fun v2 σ1 =>
    z_g (z_kd σ1 r0 == 12) (z_x (z_ui σ1 r0 5 v2) (fun σ3 =>
    z_g (z_kd σ3 r0 == 12) (if (z_i σ3 r0 5) = 0 then
      z_g (z_kd σ3 r0 == 12) (z_x (z_ui σ3 r0 6 (-1 : Int32)) (fun σ8 =>
      z_g (z_kd σ8 r0 == 12) (z_x (z_ui σ8 r0 4 (0 : Int32)) (fun σ9 =>
      z_g (z_kd σ9 r0 == 12) (if (z_i σ9 r0 5) = 0 then
        z_g (z_kd σ9 r0 == 12) (z_x (z_r σ9 r0 0) (fun u10 => z_g (z_at σ9 u10 20 (5 : Int32)) (z_g (z_at σ9 u10 20 (5 : Int32) && Nat.ble 10 u10) (z_x (z_ui σ9 u10 (5 : Int32).toNatClampNeg ((z_i σ9 u10 (5 : Int32).toNatClampNeg) + (1 : Int32))) (fun σ11 =>
        z_g (z_kd σ11 r0 == 12) (z_g (z_at σ11 (z_r σ11 r0 0) 20 (5 : Int32)) (some (vi ((z_i σ11 (z_r σ11 r0 0) (5 : Int32).toNatClampNeg) - (1 : Int32)), σ11))))))))
      else
        some (vi (-1 : Int32), σ9))))))
    else
      z_g (z_kd σ3 r0 == 12) (z_g (z_kd σ3 r0 == 12) (z_x (z_ui σ3 r0 6 (z_i σ3 r0 8)) (fun σ4 =>
      z_g (z_kd σ4 r0 == 12) (z_x (z_ui σ4 r0 4 (0 : Int32)) (fun σ5 =>
      z_g (z_kd σ5 r0 == 12) (if (z_i σ5 r0 5) = 0 then
        z_g (z_kd σ5 r0 == 12) (z_x (z_r σ5 r0 0) (fun u6 => z_g (z_at σ5 u6 20 (5 : Int32)) (z_g (z_at σ5 u6 20 (5 : Int32) && Nat.ble 10 u6) (z_x (z_ui σ5 u6 (5 : Int32).toNatClampNeg ((z_i σ5 u6 (5 : Int32).toNatClampNeg) + (1 : Int32))) (fun σ7 =>
        z_g (z_kd σ7 r0 == 12) (z_g (z_at σ7 (z_r σ7 r0 0) 20 (5 : Int32)) (some (vi ((z_i σ7 (z_r σ7 r0 0) (5 : Int32).toNatClampNeg) - (1 : Int32)), σ7))))))))
      else
        some (vi (-1 : Int32), σ5)))))))))))))) := (z_w_eq _ _ _ _ _ _).trans rfl
set_option maxRecDepth 100000 in
theorem e_B_fault (d : Nat) (r0 : Nat) (x1 : Int32) (σ : ZM) : z_call (d + 1) 113 [vr r0, vi x1] σ =
  z_g (z_kd σ r0 == 11) (z_g (z_kd σ (z_r σ r0 10) == 7) (if (z_i σ (z_r σ r0 10) 13) = 0 then
    some (vi (-1 : Int32), σ)
  else
    if x1 < 0 then
      some (vi (-1 : Int32), σ)
    else
      if (1 : Int32) < x1 then
        some (vi (-1 : Int32), σ)
      else
        if x1 = 0 then
          z_g (z_kd σ r0 == 11) (z_g (z_kd σ (z_r σ r0 10) == 7) (some (vi (z_i σ (z_r σ r0 10) 14), σ)))
        else
          z_g (z_kd σ r0 == 11) (z_g (z_kd σ (z_r σ r0 10) == 7) (some (vi (z_i σ (z_r σ r0 10) 15), σ))))) := (z_w_eq _ _ _ _ _ _).trans rfl
set_option maxRecDepth 100000 in
theorem e_M_fault (d : Nat) (r0 : Nat) (x1 : Int32) (σ : ZM) : z_call (d + 1) 114 [vr r0, vi x1] σ =
  if x1 = 0 then
    z_g (z_kd σ r0 == 12) (some (vi (z_i σ r0 5), σ))
  else
    if x1 = (1 : Int32) then
      z_g (z_kd σ r0 == 12) (some (vi (z_i σ r0 6), σ))
    else
      some (vi (-1 : Int32), σ) := (z_w_eq _ _ _ _ _ _).trans rfl
set_option maxRecDepth 100000 in
theorem e_H_hasText (d : Nat) (r0 : Nat) (x1 : Int32) (σ : ZM) : z_call (d + 1) 115 [vr r0, vi x1] σ =
  if x1 < 0 then
    some (vi (0 : Int32), σ)
  else
    z_g (z_kd σ r0 == 4) (if x1 < (z_i σ r0 10) then
      some (vi (1 : Int32), σ)
    else
      some (vi (0 : Int32), σ)) := (z_w_eq _ _ _ _ _ _).trans rfl
set_option maxRecDepth 100000 in
theorem e_B_by (d : Nat) (r0 : Nat) (x1 : Int32) (σ : ZM) : z_call (d + 1) 116 [vr r0, vi x1] σ =
  if x1 = (-1 : Int32) then
    z_g (z_kd σ r0 == 11) (z_g (z_kd σ (z_r σ r0 0) == 4) (z_x (z_ui σ (z_r σ r0 0) 12 x1) (fun σ1 =>
    some (vi (1 : Int32), σ1))))
  else
    z_g (z_kd σ r0 == 11) (z_g (z_kd σ (z_r σ r0 0) == 4) (z_bI (z_call d 115 [vr (z_r σ r0 0), vi x1] σ) (fun v3 σ2 =>
    if v3 = 0 then
      some (vi (0 : Int32), σ2)
    else
      z_g (z_kd σ2 r0 == 11) (z_g (z_kd σ2 (z_r σ2 r0 0) == 4) (z_x (z_ui σ2 (z_r σ2 r0 0) 12 x1) (fun σ4 =>
      some (vi (1 : Int32), σ4))))))) := (z_w_eq _ _ _ _ _ _).trans rfl
set_option maxRecDepth 100000 in
theorem e_M_by (d : Nat) (r0 : Nat) (x1 : Int32) (σ : ZM) : z_call (d + 1) 117 [vr r0, vi x1] σ =
  z_g (z_kd σ r0 == 12) (z_g (z_at σ (z_r σ r0 0) 20 (5 : Int32)) (z_bI (z_call d 19 [vi x1, vi (-1 : Int32), vi ((z_i σ (z_r σ r0 0) (5 : Int32).toNatClampNeg) - (1 : Int32))] σ) (fun v2 σ1 =>
  if v2 = 0 then
    some (vi (0 : Int32), σ1)
  else
    z_g (z_kd σ1 r0 == 12) (z_g (z_at σ1 (z_r σ1 r0 0) 20 (6 : Int32) && Nat.ble 10 (z_r σ1 r0 0)) (z_x (z_ui σ1 (z_r σ1 r0 0) (6 : Int32).toNatClampNeg x1) (fun σ3 =>
    some (vi (1 : Int32), σ3))))))) := (z_w_eq _ _ _ _ _ _).trans rfl
set_option maxRecDepth 100000 in
theorem e_H_hasPerson (d : Nat) (r0 : Nat) (x1 : Int32) (σ : ZM) : z_call (d + 1) 118 [vr r0, vi x1] σ =
  if x1 < 0 then
    some (vi (0 : Int32), σ)
  else
    z_g (z_kd σ r0 == 4) (if x1 < (z_i σ r0 3) then
      some (vi (1 : Int32), σ)
    else
      some (vi (0 : Int32), σ)) := (z_w_eq _ _ _ _ _ _).trans rfl
set_option maxRecDepth 100000 in
theorem e_H_hasSeat (d : Nat) (r0 : Nat) (x1 : Int32) (σ : ZM) : z_call (d + 1) 119 [vr r0, vi x1] σ =
  if x1 < 0 then
    some (vi (0 : Int32), σ)
  else
    z_g (z_kd σ r0 == 4) (if x1 < (z_i σ r0 0) then
      some (vi (1 : Int32), σ)
    else
      some (vi (0 : Int32), σ)) := (z_w_eq _ _ _ _ _ _).trans rfl
set_option maxRecDepth 100000 in
theorem e_Mo_whoSits (d : Nat) (r0 : Nat) (x1 : Int32) (σ : ZM) : z_call (d + 1) 120 [vr r0, vi x1] σ =
  z_w d_Mo_whoSits (z_call d) 2 [some (vr r0), some (vi x1), some (vi (0 : Int32))] [] σ := (z_w_eq _ _ _ _ _ _).trans rfl
set_option maxRecDepth 100000 in
theorem e_Mo_whoSits_2 (cl : Nat → List ZV → ZM → ZR) (r0 : Nat) (x1 : Int32) (x2 : Int32) (σ : ZM) : z_w d_Mo_whoSits cl 2 [some (vr r0), some (vi x1), some (vi x2)] [] σ =
  if x2 < (10 : Int32) then
    z_g (z_kd σ r0 == 5) (z_g (z_at σ (z_r σ r0 0) 20 x2) (if (z_i σ (z_r σ r0 0) x2.toNatClampNeg) = x1 then
      some (vi x2, σ)
    else
      z_w d_Mo_whoSits cl 2 [some (vr r0), some (vi x1), some (vi (x2 + (1 : Int32)))] [] σ))
  else
    some (vi (-1 : Int32), σ) := (z_w_eq _ _ _ _ _ _).trans rfl
set_option maxRecDepth 100000 in
theorem e_Mo_writeTo (d : Nat) (r0 : Nat) (r1 : Nat) (x2 : Int32) (σ : ZM) : z_call (d + 1) 121 [vr r0, vr r1, vi x2] σ =
  z_g (z_kd σ r0 == 5) (z_bV (z_call d 1 [vr (z_r σ r0 0), vi (0 : Int32), vr r1, vi x2, vi (10 : Int32)] σ) (fun σ1 =>
  z_g (z_kd σ1 r0 == 5) (z_bV (z_call d 1 [vr (z_r σ1 r0 1), vi (0 : Int32), vr r1, vi (x2 + (10 : Int32)), vi (10 : Int32)] σ1) (fun σ2 =>
  z_x (x2 + (20 : Int32)) (fun u3 => z_g (z_kd σ2 r0 == 5) (z_g (z_at σ2 r1 20 u3 && Nat.ble 10 r1) (z_x (z_ui σ2 r1 u3.toNatClampNeg (z_i σ2 r0 2)) (fun σ4 =>
  z_g (z_kd σ4 r0 == 5) (z_g (z_at σ4 r1 20 (u3 + (1 : Int32)) && Nat.ble 10 r1) (z_x (z_ui σ4 r1 (u3 + (1 : Int32)).toNatClampNeg (z_i σ4 r0 3)) (fun σ5 =>
  z_g (z_kd σ5 r0 == 5) (z_g (z_at σ5 r1 20 (u3 + (2 : Int32)) && Nat.ble 10 r1) (z_x (z_ui σ5 r1 (u3 + (2 : Int32)).toNatClampNeg (z_i σ5 r0 4)) (fun σ6 =>
  z_g (z_kd σ6 r0 == 5) (z_g (z_at σ6 r1 20 (u3 + (3 : Int32)) && Nat.ble 10 r1) (z_x (z_ui σ6 r1 (u3 + (3 : Int32)).toNatClampNeg (z_i σ6 r0 5)) (fun σ7 =>
  some (vi 0, σ7)))))))))))))))))) := (z_w_eq _ _ _ _ _ _).trans rfl
set_option maxRecDepth 100000 in
theorem e_St_keep (d : Nat) (r0 : Nat) (r1 : Nat) (σ : ZM) : z_call (d + 1) 122 [vr r0, vr r1] σ =
  z_g (z_kd σ r0 == 8) (z_g (z_kd σ r0 == 8) (z_g (z_kd σ r1 == 5) (z_bV (z_call d 121 [vr r1, vr (z_r σ r0 0), vi ((z_i σ r0 1) * (24 : Int32))] σ) (fun σ1 =>
  z_g (z_kd σ1 r0 == 8) (z_g (z_kd σ1 r0 == 8) (z_x (z_ui σ1 r0 1 (((z_i σ1 r0 1) + (1 : Int32)) - ((z_i σ1 r0 1) + (1 : Int32)) / (30 : Int32) * (30 : Int32))) (fun σ2 =>
  z_g (z_kd σ2 r0 == 8) (if (z_i σ2 r0 2) < (30 : Int32) then
    z_g (z_kd σ2 r0 == 8) (z_g (z_kd σ2 r0 == 8) (z_x (z_ui σ2 r0 2 ((z_i σ2 r0 2) + (1 : Int32))) (fun σ3 =>
    some (vi 0, σ3))))
  else
    some (vi 0, σ2))))))))) := (z_w_eq _ _ _ _ _ _).trans rfl
set_option maxRecDepth 100000 in
theorem e_De_sits (d : Nat) (r0 : Nat) (x1 : Int32) (x2 : Int32) (σ : ZM) : z_call (d + 1) 123 [vr r0, vi x1, vi x2] σ =
  z_g (z_kd σ r0 == 2) (z_g (z_kd σ (z_r σ r0 0) == 4) (z_bI (z_call d 118 [vr (z_r σ r0 0), vi x1] σ) (fun v2 σ1 =>
  if v2 = 0 then
    some (vi (0 : Int32), σ1)
  else
    z_g (z_kd σ1 r0 == 2) (z_g (z_kd σ1 (z_r σ1 r0 1) == 5) (z_g (z_at σ1 (z_r σ1 (z_r σ1 r0 1) 0) 20 x1) (if (z_i σ1 (z_r σ1 (z_r σ1 r0 1) 0) x1.toNatClampNeg) = x2 then
      some (vi (0 : Int32), σ1)
    else
      if x2 = (-1 : Int32) then
        z_g (z_kd σ1 r0 == 2) (z_g (z_kd σ1 r0 == 2) (z_g (z_kd σ1 (z_r σ1 r0 2) == 8) (z_bV (z_call d 122 [vr (z_r σ1 r0 2), vr (z_r σ1 r0 1)] σ1) (fun σ3 =>
        z_g (z_kd σ3 r0 == 2) (z_g (z_kd σ3 (z_r σ3 r0 1) == 5) (z_g (z_at σ3 (z_r σ3 (z_r σ3 r0 1) 0) 20 x1 && Nat.ble 10 (z_r σ3 (z_r σ3 r0 1) 0)) (z_x (z_ui σ3 (z_r σ3 (z_r σ3 r0 1) 0) x1.toNatClampNeg x2) (fun σ4 =>
        some (vi (1 : Int32), σ4)))))))))
      else
        z_g (z_kd σ1 r0 == 2) (z_g (z_kd σ1 (z_r σ1 r0 0) == 4) (z_bI (z_call d 119 [vr (z_r σ1 r0 0), vi x2] σ1) (fun v6 σ5 =>
        if v6 = 0 then
          some (vi (0 : Int32), σ5)
        else
          z_g (z_kd σ5 r0 == 2) (z_g (z_kd σ5 (z_r σ5 r0 1) == 5) (z_bI (z_call d 120 [vr (z_r σ5 r0 1), vi x2] σ5) (fun v8 σ7 =>
          if v8 = (-1 : Int32) then
            z_g (z_kd σ7 r0 == 2) (z_g (z_kd σ7 r0 == 2) (z_g (z_kd σ7 (z_r σ7 r0 2) == 8) (z_bV (z_call d 122 [vr (z_r σ7 r0 2), vr (z_r σ7 r0 1)] σ7) (fun σ9 =>
            z_g (z_kd σ9 r0 == 2) (z_g (z_kd σ9 (z_r σ9 r0 1) == 5) (z_g (z_at σ9 (z_r σ9 (z_r σ9 r0 1) 0) 20 x1 && Nat.ble 10 (z_r σ9 (z_r σ9 r0 1) 0)) (z_x (z_ui σ9 (z_r σ9 (z_r σ9 r0 1) 0) x1.toNatClampNeg x2) (fun σ10 =>
            some (vi (1 : Int32), σ10)))))))))
          else
            some (vi (0 : Int32), σ7))))))))))))) := (z_w_eq _ _ _ _ _ _).trans rfl
set_option maxRecDepth 100000 in
theorem e_B_sit (d : Nat) (r0 : Nat) (x1 : Int32) (x2 : Int32) (σ : ZM) : z_call (d + 1) 124 [vr r0, vi x1, vi x2] σ =
  z_g (z_kd σ r0 == 11) (z_g (z_kd σ (z_r σ r0 12) == 2) (z_bI (z_call d 123 [vr (z_r σ r0 12), vi x1, vi x2] σ) (fun v2 σ1 =>
  z_g (z_fit 1 v2) (some (vi v2, σ1))))) := (z_w_eq _ _ _ _ _ _).trans rfl
set_option maxRecDepth 100000 in
theorem e_M_isPerson (d : Nat) (r0 : Nat) (x1 : Int32) (σ : ZM) : z_call (d + 1) 125 [vr r0, vi x1] σ =
  z_g (z_kd σ r0 == 12) (z_g (z_at σ (z_r σ r0 0) 20 (1 : Int32)) (z_bI (z_call d 19 [vi x1, vi (0 : Int32), vi ((z_i σ (z_r σ r0 0) (1 : Int32).toNatClampNeg) - (1 : Int32))] σ) (fun v2 σ1 =>
  z_g (z_fit 1 v2) (some (vi v2, σ1))))) := (z_w_eq _ _ _ _ _ _).trans rfl
set_option maxRecDepth 100000 in
theorem e_M_get (d : Nat) (r0 : Nat) (x1 : Int32) (x2 : Int32) (σ : ZM) : z_call (d + 1) 126 [vr r0, vi x1, vi x2] σ =
  z_g (z_kd σ r0 == 12) (z_g (z_at σ (z_r σ r0 0) 20 (((32 : Int32) + ((5 : Int32) * x1)) + x2)) (some (vi (z_i σ (z_r σ r0 0) (((32 : Int32) + ((5 : Int32) * x1)) + x2).toNatClampNeg), σ))) := (z_w_eq _ _ _ _ _ _).trans rfl
set_option maxRecDepth 100000 in
theorem e_M_isSeat (d : Nat) (r0 : Nat) (x1 : Int32) (σ : ZM) : z_call (d + 1) 127 [vr r0, vi x1] σ =
  z_g (z_kd σ r0 == 12) (z_g (z_at σ (z_r σ r0 0) 20 (0 : Int32)) (z_bI (z_call d 19 [vi x1, vi (0 : Int32), vi ((z_i σ (z_r σ r0 0) (0 : Int32).toNatClampNeg) - (1 : Int32))] σ) (fun v2 σ1 =>
  z_g (z_fit 1 v2) (some (vi v2, σ1))))) := (z_w_eq _ _ _ _ _ _).trans rfl
set_option maxRecDepth 100000 in
theorem e_M_sitterOf (d : Nat) (r0 : Nat) (x1 : Int32) (σ : ZM) : z_call (d + 1) 128 [vr r0, vi x1] σ =
  z_w d_M_sitterOf (z_call d) 2 [some (vr r0), some (vi x1), some (vi (0 : Int32))] [] σ := (z_w_eq _ _ _ _ _ _).trans rfl
set_option maxRecDepth 100000 in
theorem e_M_sitterOf_2 (cl : Nat → List ZV → ZM → ZR) (r0 : Nat) (x1 : Int32) (x2 : Int32) (σ : ZM) : z_w d_M_sitterOf cl 2 [some (vr r0), some (vi x1), some (vi x2)] [] σ =
  z_g (z_kd σ r0 == 12) (z_g (z_at σ (z_r σ r0 0) 20 (1 : Int32)) (if x2 < (z_i σ (z_r σ r0 0) (1 : Int32).toNatClampNeg) then
    z_g (z_kd σ r0 == 12) (z_bI (cl 126 [vr r0, vi x2, vi (3 : Int32)] σ) (fun v2 σ1 =>
    if v2 = x1 then
      some (vi x2, σ1)
    else
      z_w d_M_sitterOf cl 2 [some (vr r0), some (vi x1), some (vi (x2 + (1 : Int32)))] [] σ1))
  else
    some (vi (-1 : Int32), σ))) := (z_w_eq _ _ _ _ _ _).trans rfl
set_option maxRecDepth 100000 in
theorem e_M_keep (d : Nat) (r0 : Nat) (σ : ZM) : z_call (d + 1) 129 [vr r0] σ =
  z_g (z_kd σ r0 == 12) (z_g (z_at σ (z_r σ r0 0) 20 (7 : Int32)) (if (z_i σ (z_r σ r0 0) (7 : Int32).toNatClampNeg) = (30 : Int32) then
    z_w d_M_keep (z_call d) 14 [some (vr r0), some (vi (0 : Int32)), none] [] σ
  else
    z_g (z_kd σ r0 == 12) (z_g (z_at σ (z_r σ r0 0) 20 (7 : Int32)) (z_x ((186 : Int32) + ((65 : Int32) * (z_i σ (z_r σ r0 0) (7 : Int32).toNatClampNeg))) (fun u1 => z_g (z_kd σ r0 == 12) (z_g (z_kd σ r0 == 12) (z_g (z_at σ (z_r σ r0 0) 20 (1 : Int32)) (z_g (z_at σ (z_r σ r0 0) 20 u1 && Nat.ble 10 (z_r σ r0 0)) (z_x (z_ui σ (z_r σ r0 0) u1.toNatClampNeg (z_i σ (z_r σ r0 0) (1 : Int32).toNatClampNeg)) (fun σ2 =>
    z_g (z_kd σ2 r0 == 12) (z_g (z_kd σ2 r0 == 12) (z_g (z_at σ2 (z_r σ2 r0 0) 20 (8 : Int32)) (z_g (z_at σ2 (z_r σ2 r0 0) 20 (u1 + (1 : Int32)) && Nat.ble 10 (z_r σ2 r0 0)) (z_x (z_ui σ2 (z_r σ2 r0 0) (u1 + (1 : Int32)).toNatClampNeg (z_i σ2 (z_r σ2 r0 0) (8 : Int32).toNatClampNeg)) (fun σ3 =>
    z_g (z_kd σ3 r0 == 12) (z_g (z_kd σ3 r0 == 12) (z_g (z_at σ3 (z_r σ3 r0 0) 20 (3 : Int32)) (z_g (z_at σ3 (z_r σ3 r0 0) 20 (u1 + (2 : Int32)) && Nat.ble 10 (z_r σ3 r0 0)) (z_x (z_ui σ3 (z_r σ3 r0 0) (u1 + (2 : Int32)).toNatClampNeg (z_i σ3 (z_r σ3 r0 0) (3 : Int32).toNatClampNeg)) (fun σ4 =>
    z_g (z_kd σ4 r0 == 12) (z_g (z_kd σ4 r0 == 12) (z_g (z_at σ4 (z_r σ4 r0 0) 20 (4 : Int32)) (z_g (z_at σ4 (z_r σ4 r0 0) 20 (u1 + (3 : Int32)) && Nat.ble 10 (z_r σ4 r0 0)) (z_x (z_ui σ4 (z_r σ4 r0 0) (u1 + (3 : Int32)).toNatClampNeg (z_i σ4 (z_r σ4 r0 0) (4 : Int32).toNatClampNeg)) (fun σ5 =>
    z_g (z_kd σ5 r0 == 12) (z_g (z_kd σ5 r0 == 12) (z_g (z_at σ5 (z_r σ5 r0 0) 20 (11 : Int32)) (z_g (z_at σ5 (z_r σ5 r0 0) 20 (u1 + (4 : Int32)) && Nat.ble 10 (z_r σ5 r0 0)) (z_x (z_ui σ5 (z_r σ5 r0 0) (u1 + (4 : Int32)).toNatClampNeg (z_i σ5 (z_r σ5 r0 0) (11 : Int32).toNatClampNeg)) (fun σ6 =>
    z_w d_M_keep (z_call d) 145 [some (vr r0), some (vi u1), some (vi (0 : Int32))] [] σ6)))))))))))))))))))))))))))))) := (z_w_eq _ _ _ _ _ _).trans rfl
set_option maxRecDepth 100000 in
theorem e_M_keep_14 (cl : Nat → List ZV → ZM → ZR) (r0 : Nat) (x1 : Int32) (σ : ZM) : z_w d_M_keep cl 14 [some (vr r0), some (vi x1), none] [] σ =
  if x1 < (1885 : Int32) then
    z_g (z_kd σ r0 == 12) (z_g (z_kd σ r0 == 12) (z_g (z_at σ (z_r σ r0 0) 20 ((251 : Int32) + x1)) (z_g (z_at σ (z_r σ r0 0) 20 ((186 : Int32) + x1) && Nat.ble 10 (z_r σ r0 0)) (z_x (z_ui σ (z_r σ r0 0) ((186 : Int32) + x1).toNatClampNeg (z_i σ (z_r σ r0 0) ((251 : Int32) + x1).toNatClampNeg)) (fun σ9 =>
    z_w d_M_keep cl 14 [some (vr r0), some (vi (x1 + (1 : Int32))), none] [] σ9)))))
  else
    z_g (z_kd σ r0 == 12) (z_x (z_r σ r0 0) (fun u1 => z_g (z_at σ u1 20 (7 : Int32)) (z_g (z_at σ u1 20 (7 : Int32) && Nat.ble 10 u1) (z_x (z_ui σ u1 (7 : Int32).toNatClampNeg ((z_i σ u1 (7 : Int32).toNatClampNeg) - (1 : Int32))) (fun σ2 =>
    z_g (z_kd σ2 r0 == 12) (z_g (z_at σ2 (z_r σ2 r0 0) 20 (7 : Int32)) (z_x ((186 : Int32) + ((65 : Int32) * (z_i σ2 (z_r σ2 r0 0) (7 : Int32).toNatClampNeg))) (fun u3 => z_g (z_kd σ2 r0 == 12) (z_g (z_kd σ2 r0 == 12) (z_g (z_at σ2 (z_r σ2 r0 0) 20 (1 : Int32)) (z_g (z_at σ2 (z_r σ2 r0 0) 20 u3 && Nat.ble 10 (z_r σ2 r0 0)) (z_x (z_ui σ2 (z_r σ2 r0 0) u3.toNatClampNeg (z_i σ2 (z_r σ2 r0 0) (1 : Int32).toNatClampNeg)) (fun σ4 =>
    z_g (z_kd σ4 r0 == 12) (z_g (z_kd σ4 r0 == 12) (z_g (z_at σ4 (z_r σ4 r0 0) 20 (8 : Int32)) (z_g (z_at σ4 (z_r σ4 r0 0) 20 (u3 + (1 : Int32)) && Nat.ble 10 (z_r σ4 r0 0)) (z_x (z_ui σ4 (z_r σ4 r0 0) (u3 + (1 : Int32)).toNatClampNeg (z_i σ4 (z_r σ4 r0 0) (8 : Int32).toNatClampNeg)) (fun σ5 =>
    z_g (z_kd σ5 r0 == 12) (z_g (z_kd σ5 r0 == 12) (z_g (z_at σ5 (z_r σ5 r0 0) 20 (3 : Int32)) (z_g (z_at σ5 (z_r σ5 r0 0) 20 (u3 + (2 : Int32)) && Nat.ble 10 (z_r σ5 r0 0)) (z_x (z_ui σ5 (z_r σ5 r0 0) (u3 + (2 : Int32)).toNatClampNeg (z_i σ5 (z_r σ5 r0 0) (3 : Int32).toNatClampNeg)) (fun σ6 =>
    z_g (z_kd σ6 r0 == 12) (z_g (z_kd σ6 r0 == 12) (z_g (z_at σ6 (z_r σ6 r0 0) 20 (4 : Int32)) (z_g (z_at σ6 (z_r σ6 r0 0) 20 (u3 + (3 : Int32)) && Nat.ble 10 (z_r σ6 r0 0)) (z_x (z_ui σ6 (z_r σ6 r0 0) (u3 + (3 : Int32)).toNatClampNeg (z_i σ6 (z_r σ6 r0 0) (4 : Int32).toNatClampNeg)) (fun σ7 =>
    z_g (z_kd σ7 r0 == 12) (z_g (z_kd σ7 r0 == 12) (z_g (z_at σ7 (z_r σ7 r0 0) 20 (11 : Int32)) (z_g (z_at σ7 (z_r σ7 r0 0) 20 (u3 + (4 : Int32)) && Nat.ble 10 (z_r σ7 r0 0)) (z_x (z_ui σ7 (z_r σ7 r0 0) (u3 + (4 : Int32)).toNatClampNeg (z_i σ7 (z_r σ7 r0 0) (11 : Int32).toNatClampNeg)) (fun σ8 =>
    z_w d_M_keep cl 145 [some (vr r0), some (vi u3), some (vi (0 : Int32))] [] σ8))))))))))))))))))))))))))))))))) := (z_w_eq _ _ _ _ _ _).trans rfl
set_option maxRecDepth 100000 in
theorem e_M_keep_145 (cl : Nat → List ZV → ZM → ZR) (r0 : Nat) (x1 : Int32) (x2 : Int32) (σ : ZM) : z_w d_M_keep cl 145 [some (vr r0), some (vi x1), some (vi x2)] [] σ =
  if x2 < (10 : Int32) then
    z_g (z_kd σ r0 == 12) (z_g (z_kd σ r0 == 12) (z_bI (cl 126 [vr r0, vi x2, vi (3 : Int32)] σ) (fun v2 σ1 =>
    z_g (z_at σ1 (z_r σ r0 0) 20 ((x1 + (5 : Int32)) + ((2 : Int32) * x2)) && Nat.ble 10 (z_r σ r0 0)) (z_x (z_ui σ1 (z_r σ r0 0) ((x1 + (5 : Int32)) + ((2 : Int32) * x2)).toNatClampNeg v2) (fun σ3 =>
    z_g (z_kd σ3 r0 == 12) (z_g (z_kd σ3 r0 == 12) (z_bI (cl 126 [vr r0, vi x2, vi (4 : Int32)] σ3) (fun v5 σ4 =>
    z_g (z_at σ4 (z_r σ3 r0 0) 20 ((x1 + (6 : Int32)) + ((2 : Int32) * x2)) && Nat.ble 10 (z_r σ3 r0 0)) (z_x (z_ui σ4 (z_r σ3 r0 0) ((x1 + (6 : Int32)) + ((2 : Int32) * x2)).toNatClampNeg v5) (fun σ6 =>
    z_w d_M_keep cl 145 [some (vr r0), some (vi x1), some (vi (x2 + (1 : Int32)))] [] σ6))))))))))
  else
    z_w d_M_keep cl 196 [some (vr r0), some (vi x1), some (vi (0 : Int32))] [] σ := (z_w_eq _ _ _ _ _ _).trans rfl
set_option maxRecDepth 100000 in
theorem e_M_keep_196 (cl : Nat → List ZV → ZM → ZR) (r0 : Nat) (x1 : Int32) (x2 : Int32) (σ : ZM) : z_w d_M_keep cl 196 [some (vr r0), some (vi x1), some (vi x2)] [] σ =
  if x2 < (40 : Int32) then
    z_g (z_kd σ r0 == 12) (z_g (z_kd σ r0 == 12) (z_g (z_at σ (z_r σ r0 0) 20 ((106 : Int32) + x2)) (z_g (z_at σ (z_r σ r0 0) 20 ((x1 + (25 : Int32)) + x2) && Nat.ble 10 (z_r σ r0 0)) (z_x (z_ui σ (z_r σ r0 0) ((x1 + (25 : Int32)) + x2).toNatClampNeg (z_i σ (z_r σ r0 0) ((106 : Int32) + x2).toNatClampNeg)) (fun σ3 =>
    z_w d_M_keep cl 196 [some (vr r0), some (vi x1), some (vi (x2 + (1 : Int32)))] [] σ3)))))
  else
    z_g (z_kd σ r0 == 12) (z_x (z_r σ r0 0) (fun u1 => z_g (z_at σ u1 20 (7 : Int32)) (z_g (z_at σ u1 20 (7 : Int32) && Nat.ble 10 u1) (z_x (z_ui σ u1 (7 : Int32).toNatClampNeg ((z_i σ u1 (7 : Int32).toNatClampNeg) + (1 : Int32))) (fun σ2 =>
    some (vi 0, σ2)))))) := (z_w_eq _ _ _ _ _ _).trans rfl
set_option maxRecDepth 100000 in
theorem e_M_sit (d : Nat) (r0 : Nat) (x1 : Int32) (x2 : Int32) (σ : ZM) : z_call (d + 1) 130 [vr r0, vi x1, vi x2] σ =
  z_g (z_kd σ r0 == 12) (z_bI (z_call d 125 [vr r0, vi x1] σ) (fun v2 σ1 =>
  if v2 = 0 then
    some (vi (0 : Int32), σ1)
  else
    z_g (z_kd σ1 r0 == 12) (z_bI (z_call d 126 [vr r0, vi x1, vi (3 : Int32)] σ1) (fun v4 σ3 =>
    if v4 = x2 then
      some (vi (0 : Int32), σ3)
    else
      if x2 = (-1 : Int32) then
        z_g (z_kd σ3 r0 == 12) (z_bV (z_call d 129 [vr r0] σ3) (fun σ5 =>
        z_g (z_kd σ5 r0 == 12) (z_bV (z_call d 23 [vr r0, vi x1, vi (3 : Int32), vi x2] σ5) (fun σ6 =>
        some (vi (1 : Int32), σ6)))))
      else
        z_g (z_kd σ3 r0 == 12) (z_bI (z_call d 127 [vr r0, vi x2] σ3) (fun v8 σ7 =>
        if v8 = 0 then
          some (vi (0 : Int32), σ7)
        else
          z_g (z_kd σ7 r0 == 12) (z_bI (z_call d 128 [vr r0, vi x2] σ7) (fun v10 σ9 =>
          if v10 = (-1 : Int32) then
            z_g (z_kd σ9 r0 == 12) (z_bV (z_call d 129 [vr r0] σ9) (fun σ11 =>
            z_g (z_kd σ11 r0 == 12) (z_bV (z_call d 23 [vr r0, vi x1, vi (3 : Int32), vi x2] σ11) (fun σ12 =>
            some (vi (1 : Int32), σ12)))))
          else
            some (vi (0 : Int32), σ9))))))))) := (z_w_eq _ _ _ _ _ _).trans rfl
set_option maxRecDepth 100000 in
theorem e_De_swaps (d : Nat) (r0 : Nat) (x1 : Int32) (x2 : Int32) (σ : ZM) : z_call (d + 1) 131 [vr r0, vi x1, vi x2] σ =
  z_g (z_kd σ r0 == 2) (z_g (z_kd σ (z_r σ r0 0) == 4) (z_bI (z_call d 118 [vr (z_r σ r0 0), vi x1] σ) (fun v2 σ1 =>
  if v2 = 0 then
    some (vi (0 : Int32), σ1)
  else
    z_g (z_kd σ1 r0 == 2) (z_g (z_kd σ1 (z_r σ1 r0 0) == 4) (z_bI (z_call d 118 [vr (z_r σ1 r0 0), vi x2] σ1) (fun v4 σ3 =>
    if v4 = 0 then
      some (vi (0 : Int32), σ3)
    else
      if x1 = x2 then
        some (vi (0 : Int32), σ3)
      else
        z_g (z_kd σ3 r0 == 2) (z_g (z_kd σ3 (z_r σ3 r0 1) == 5) (z_g (z_at σ3 (z_r σ3 (z_r σ3 r0 1) 0) 20 x1) (z_x (z_i σ3 (z_r σ3 (z_r σ3 r0 1) 0) x1.toNatClampNeg) (fun u5 => z_g (z_kd σ3 r0 == 2) (z_g (z_kd σ3 (z_r σ3 r0 1) == 5) (z_g (z_at σ3 (z_r σ3 (z_r σ3 r0 1) 0) 20 x2) (z_x (z_i σ3 (z_r σ3 (z_r σ3 r0 1) 0) x2.toNatClampNeg) (fun u6 => if u5 = (-1 : Int32) then
          some (vi (0 : Int32), σ3)
        else
          if u6 = (-1 : Int32) then
            some (vi (0 : Int32), σ3)
          else
            z_g (z_kd σ3 r0 == 2) (z_g (z_kd σ3 r0 == 2) (z_g (z_kd σ3 (z_r σ3 r0 2) == 8) (z_bV (z_call d 122 [vr (z_r σ3 r0 2), vr (z_r σ3 r0 1)] σ3) (fun σ7 =>
            z_g (z_kd σ7 r0 == 2) (z_g (z_kd σ7 (z_r σ7 r0 1) == 5) (z_g (z_at σ7 (z_r σ7 (z_r σ7 r0 1) 0) 20 x1 && Nat.ble 10 (z_r σ7 (z_r σ7 r0 1) 0)) (z_x (z_ui σ7 (z_r σ7 (z_r σ7 r0 1) 0) x1.toNatClampNeg u6) (fun σ8 =>
            z_g (z_kd σ8 r0 == 2) (z_g (z_kd σ8 (z_r σ8 r0 1) == 5) (z_g (z_at σ8 (z_r σ8 (z_r σ8 r0 1) 0) 20 x2 && Nat.ble 10 (z_r σ8 (z_r σ8 r0 1) 0)) (z_x (z_ui σ8 (z_r σ8 (z_r σ8 r0 1) 0) x2.toNatClampNeg u5) (fun σ9 =>
            some (vi (1 : Int32), σ9))))))))))))))))))))))))))) := (z_w_eq _ _ _ _ _ _).trans rfl
set_option maxRecDepth 100000 in
theorem e_B_change (d : Nat) (r0 : Nat) (x1 : Int32) (x2 : Int32) (σ : ZM) : z_call (d + 1) 132 [vr r0, vi x1, vi x2] σ =
  z_g (z_kd σ r0 == 11) (z_g (z_kd σ (z_r σ r0 12) == 2) (z_bI (z_call d 131 [vr (z_r σ r0 12), vi x1, vi x2] σ) (fun v2 σ1 =>
  z_g (z_fit 1 v2) (some (vi v2, σ1))))) := (z_w_eq _ _ _ _ _ _).trans rfl
set_option maxRecDepth 100000 in
theorem e_M_change (d : Nat) (r0 : Nat) (x1 : Int32) (x2 : Int32) (σ : ZM) : z_call (d + 1) 133 [vr r0, vi x1, vi x2] σ =
  z_g (z_kd σ r0 == 12) (z_bI (z_call d 125 [vr r0, vi x1] σ) (fun v2 σ1 =>
  if v2 = 0 then
    some (vi (0 : Int32), σ1)
  else
    z_g (z_kd σ1 r0 == 12) (z_bI (z_call d 125 [vr r0, vi x2] σ1) (fun v4 σ3 =>
    if v4 = 0 then
      some (vi (0 : Int32), σ3)
    else
      if x1 = x2 then
        some (vi (0 : Int32), σ3)
      else
        z_g (z_kd σ3 r0 == 12) (z_bI (z_call d 126 [vr r0, vi x1, vi (3 : Int32)] σ3) (fun v6 σ5 =>
        if v6 = (-1 : Int32) then
          some (vi (0 : Int32), σ5)
        else
          z_g (z_kd σ5 r0 == 12) (z_bI (z_call d 126 [vr r0, vi x2, vi (3 : Int32)] σ5) (fun v8 σ7 =>
          if v8 = (-1 : Int32) then
            some (vi (0 : Int32), σ7)
          else
            z_g (z_kd σ7 r0 == 12) (z_bV (z_call d 129 [vr r0] σ7) (fun σ9 =>
            z_g (z_kd σ9 r0 == 12) (z_bI (z_call d 126 [vr r0, vi x1, vi (3 : Int32)] σ9) (fun v11 σ10 =>
            z_g (z_kd σ10 r0 == 12) (z_bI (z_call d 126 [vr r0, vi x2, vi (3 : Int32)] σ10) (fun v13 σ12 =>
            z_g (z_kd σ12 r0 == 12) (z_bV (z_call d 23 [vr r0, vi x1, vi (3 : Int32), vi v13] σ12) (fun σ14 =>
            z_g (z_kd σ14 r0 == 12) (z_bV (z_call d 23 [vr r0, vi x2, vi (3 : Int32), vi v11] σ14) (fun σ15 =>
            some (vi (1 : Int32), σ15))))))))))))))))))) := (z_w_eq _ _ _ _ _ _).trans rfl
set_option maxRecDepth 100000 in
theorem e_De_turns (d : Nat) (r0 : Nat) (x1 : Int32) (x2 : Int32) (σ : ZM) : z_call (d + 1) 134 [vr r0, vi x1, vi x2] σ =
  z_g (z_kd σ r0 == 2) (z_g (z_kd σ (z_r σ r0 0) == 4) (z_bI (z_call d 118 [vr (z_r σ r0 0), vi x1] σ) (fun v2 σ1 =>
  if v2 = 0 then
    some (vi (0 : Int32), σ1)
  else
    z_bI (z_call d 16 [vi x2, vi (0 : Int32), vi (2 : Int32)] σ1) (fun v4 σ3 =>
    if v4 = 0 then
      some (vi (0 : Int32), σ3)
    else
      z_g (z_kd σ3 r0 == 2) (z_g (z_kd σ3 (z_r σ3 r0 1) == 5) (z_g (z_at σ3 (z_r σ3 (z_r σ3 r0 1) 1) 20 x1) (if (z_i σ3 (z_r σ3 (z_r σ3 r0 1) 1) x1.toNatClampNeg) = x2 then
        some (vi (0 : Int32), σ3)
      else
        z_g (z_kd σ3 r0 == 2) (z_g (z_kd σ3 r0 == 2) (z_g (z_kd σ3 (z_r σ3 r0 2) == 8) (z_bV (z_call d 122 [vr (z_r σ3 r0 2), vr (z_r σ3 r0 1)] σ3) (fun σ5 =>
        z_g (z_kd σ5 r0 == 2) (z_g (z_kd σ5 (z_r σ5 r0 1) == 5) (z_g (z_at σ5 (z_r σ5 (z_r σ5 r0 1) 1) 20 x1 && Nat.ble 10 (z_r σ5 (z_r σ5 r0 1) 1)) (z_x (z_ui σ5 (z_r σ5 (z_r σ5 r0 1) 1) x1.toNatClampNeg x2) (fun σ6 =>
        some (vi (1 : Int32), σ6)))))))))))))))) := (z_w_eq _ _ _ _ _ _).trans rfl
set_option maxRecDepth 100000 in
theorem e_B_be (d : Nat) (r0 : Nat) (x1 : Int32) (x2 : Int32) (σ : ZM) : z_call (d + 1) 135 [vr r0, vi x1, vi x2] σ =
  z_g (z_kd σ r0 == 11) (z_g (z_kd σ (z_r σ r0 12) == 2) (z_bI (z_call d 134 [vr (z_r σ r0 12), vi x1, vi x2] σ) (fun v2 σ1 =>
  z_g (z_fit 1 v2) (some (vi v2, σ1))))) := (z_w_eq _ _ _ _ _ _).trans rfl
set_option maxRecDepth 100000 in
theorem e_M_be (d : Nat) (r0 : Nat) (x1 : Int32) (x2 : Int32) (σ : ZM) : z_call (d + 1) 136 [vr r0, vi x1, vi x2] σ =
  z_g (z_kd σ r0 == 12) (z_bI (z_call d 125 [vr r0, vi x1] σ) (fun v2 σ1 =>
  if v2 = 0 then
    some (vi (0 : Int32), σ1)
  else
    z_bI (z_call d 19 [vi x2, vi (0 : Int32), vi (2 : Int32)] σ1) (fun v4 σ3 =>
    if v4 = 0 then
      some (vi (0 : Int32), σ3)
    else
      z_g (z_kd σ3 r0 == 12) (z_bI (z_call d 126 [vr r0, vi x1, vi (4 : Int32)] σ3) (fun v6 σ5 =>
      if v6 = x2 then
        some (vi (0 : Int32), σ5)
      else
        z_g (z_kd σ5 r0 == 12) (z_bV (z_call d 129 [vr r0] σ5) (fun σ7 =>
        z_g (z_kd σ7 r0 == 12) (z_bV (z_call d 23 [vr r0, vi x1, vi (4 : Int32), vi x2] σ7) (fun σ8 =>
        some (vi (1 : Int32), σ8)))))))))) := (z_w_eq _ _ _ _ _ _).trans rfl
set_option maxRecDepth 100000 in
theorem e_B_has (d : Nat) (x0 : Int32) (x1 : Int32) (σ : ZM) : z_call (d + 1) 137 [vi x0, vi x1] σ =
  if ((x0 >>> (x1 &&& 31)) &&& (1 : Int32)) = 0 then
    some (vi (0 : Int32), σ)
  else
    some (vi (1 : Int32), σ) := (z_w_eq _ _ _ _ _ _).trans rfl
set_option maxRecDepth 100000 in
theorem e_De_posts (d : Nat) (r0 : Nat) (x1 : Int32) (x2 : Int32) (σ : ZM) : z_call (d + 1) 138 [vr r0, vi x1, vi x2] σ =
  z_bI (z_call d 16 [vi x1, vi (0 : Int32), vi (3 : Int32)] σ) (fun v2 σ1 =>
  if v2 = 0 then
    some (vi (0 : Int32), σ1)
  else
    z_g (z_kd σ1 r0 == 2) (z_g (z_kd σ1 (z_r σ1 r0 1) == 5) (z_bI (z_call d 137 [vi (z_i σ1 (z_r σ1 r0 1) 2), vi x1] σ1) (fun v4 σ3 =>
    if v4 = x2 then
      some (vi (0 : Int32), σ3)
    else
      z_g (z_kd σ3 r0 == 2) (z_g (z_kd σ3 r0 == 2) (z_g (z_kd σ3 (z_r σ3 r0 2) == 8) (z_bV (z_call d 122 [vr (z_r σ3 r0 2), vr (z_r σ3 r0 1)] σ3) (fun σ5 =>
      z_g (z_kd σ5 r0 == 2) (z_x (z_r σ5 r0 1) (fun u6 => z_g (z_kd σ5 u6 == 5) (z_g (z_kd σ5 u6 == 5) (z_x (z_ui σ5 u6 2 ((z_i σ5 u6 2) ^^^ ((1 : Int32) <<< (x1 &&& 31)))) (fun σ7 =>
      some (vi (1 : Int32), σ7)))))))))))))) := (z_w_eq _ _ _ _ _ _).trans rfl
set_option maxRecDepth 100000 in
theorem e_B_usher (d : Nat) (r0 : Nat) (x1 : Int32) (x2 : Int32) (σ : ZM) : z_call (d + 1) 139 [vr r0, vi x1, vi x2] σ =
  z_g (z_kd σ r0 == 11) (z_g (z_kd σ (z_r σ r0 12) == 2) (z_bI (z_call d 138 [vr (z_r σ r0 12), vi x1, vi x2] σ) (fun v2 σ1 =>
  z_g (z_fit 1 v2) (some (vi v2, σ1))))) := (z_w_eq _ _ _ _ _ _).trans rfl
set_option maxRecDepth 100000 in
theorem e_M_usher (d : Nat) (r0 : Nat) (x1 : Int32) (x2 : Int32) (σ : ZM) : z_call (d + 1) 140 [vr r0, vi x1, vi x2] σ =
  z_bI (z_call d 19 [vi x1, vi (0 : Int32), vi (3 : Int32)] σ) (fun v2 σ1 =>
  if v2 = 0 then
    some (vi (0 : Int32), σ1)
  else
    z_g (z_kd σ1 r0 == 12) (z_g (z_at σ1 (z_r σ1 r0 0) 20 (8 : Int32)) (z_bI (z_call d 88 [vi (z_i σ1 (z_r σ1 r0 0) (8 : Int32).toNatClampNeg), vi x1] σ1) (fun v4 σ3 =>
    if v4 = x2 then
      some (vi (0 : Int32), σ3)
    else
      z_g (z_kd σ3 r0 == 12) (z_bV (z_call d 129 [vr r0] σ3) (fun σ5 =>
      z_g (z_kd σ5 r0 == 12) (z_x (z_r σ5 r0 0) (fun u6 => z_g (z_at σ5 u6 20 (8 : Int32)) (z_g (z_at σ5 u6 20 (8 : Int32) && Nat.ble 10 u6) (z_x (z_ui σ5 u6 (8 : Int32).toNatClampNeg ((z_i σ5 u6 (8 : Int32).toNatClampNeg) ^^^ ((1 : Int32) <<< (x1 &&& 31)))) (fun σ7 =>
      some (vi (1 : Int32), σ7)))))))))))) := (z_w_eq _ _ _ _ _ _).trans rfl
set_option maxRecDepth 100000 in
theorem e_Mo_isCoughing (d : Nat) (r0 : Nat) (x1 : Int32) (x2 : Int32) (σ : ZM) : z_call (d + 1) 141 [vr r0, vi x1, vi x2] σ =
  z_w d_Mo_isCoughing (z_call d) 2 [some (vr r0), some (vi x1), some (vi x2), some (vi (0 : Int32))] [] σ := (z_w_eq _ _ _ _ _ _).trans rfl
set_option maxRecDepth 100000 in
theorem e_Mo_isCoughing_2 (cl : Nat → List ZV → ZM → ZR) (r0 : Nat) (x1 : Int32) (x2 : Int32) (x3 : Int32) (σ : ZM) : z_w d_Mo_isCoughing cl 2 [some (vr r0), some (vi x1), some (vi x2), some (vi x3)] [] σ =
  z_g (z_kd σ r0 == 5) (if x3 < (z_i σ r0 5) then
    z_g (z_kd σ r0 == 5) (z_g (z_at σ (z_r σ r0 6) 20 x3) (if (z_i σ (z_r σ r0 6) x3.toNatClampNeg) = x1 then
      z_g (z_kd σ r0 == 5) (z_g (z_at σ (z_r σ r0 7) 20 x3) (if (z_i σ (z_r σ r0 7) x3.toNatClampNeg) = x2 then
        some (vi (1 : Int32), σ)
      else
        z_w d_Mo_isCoughing cl 2 [some (vr r0), some (vi x1), some (vi x2), some (vi (x3 + (1 : Int32)))] [] σ))
    else
      z_w d_Mo_isCoughing cl 2 [some (vr r0), some (vi x1), some (vi x2), some (vi (x3 + (1 : Int32)))] [] σ))
  else
    some (vi (0 : Int32), σ)) := (z_w_eq _ _ _ _ _ _).trans rfl
set_option maxRecDepth 100000 in
theorem e_Mo_keepCough (d : Nat) (r0 : Nat) (x1 : Int32) (σ : ZM) : z_call (d + 1) 142 [vr r0, vi x1] σ =
  z_g (z_kd σ r0 == 5) (if (z_i σ r0 5) < (20 : Int32) then
    z_g (z_kd σ r0 == 5) (z_g (z_kd σ r0 == 5) (z_bI (z_call d 141 [vr r0, vi x1, vi (z_i σ r0 3)] σ) (fun v2 σ1 =>
    if v2 = 0 then
      z_g (z_kd σ1 r0 == 5) (z_g (z_kd σ1 r0 == 5) (z_g (z_at σ1 (z_r σ1 r0 6) 20 (z_i σ1 r0 5) && Nat.ble 10 (z_r σ1 r0 6)) (z_x (z_ui σ1 (z_r σ1 r0 6) (z_i σ1 r0 5).toNatClampNeg x1) (fun σ3 =>
      z_g (z_kd σ3 r0 == 5) (z_g (z_kd σ3 r0 == 5) (z_g (z_kd σ3 r0 == 5) (z_g (z_at σ3 (z_r σ3 r0 7) 20 (z_i σ3 r0 5) && Nat.ble 10 (z_r σ3 r0 7)) (z_x (z_ui σ3 (z_r σ3 r0 7) (z_i σ3 r0 5).toNatClampNeg (z_i σ3 r0 3)) (fun σ4 =>
      z_g (z_kd σ4 r0 == 5) (z_g (z_kd σ4 r0 == 5) (z_x (z_ui σ4 r0 5 ((z_i σ4 r0 5) + (1 : Int32))) (fun σ5 =>
      some (vi 0, σ5)))))))))))))
    else
      some (vi 0, σ1))))
  else
    some (vi 0, σ)) := (z_w_eq _ _ _ _ _ _).trans rfl

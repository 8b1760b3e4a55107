/-! the methods as equations, printed by program (gen/emit.py); each holds by reduction -/
set_option maxRecDepth 100000 in
theorem e_M_seated_86 (cl : Nat → List ZV → ZM → ZR) (r0 : Nat) (x2 : Int32) (x3 : Int32) (x4 : Int32) (σ : ZM) : z_w d_M_seated cl 86 [some (vr r0), none, some (vi x2), some (vi x3), some (vi x4), none] [] σ =
  z_g (z_kd σ r0 == 12) (if x4 < (z_i σ r0 31) then
    z_g (z_kd σ r0 == 12) (z_g (z_at σ (z_r σ r0 28) 20 x4 && Nat.ble 10 (z_r σ r0 28)) (z_x (z_ui σ (z_r σ r0 28) x4.toNatClampNeg x4) (fun σ3 =>
    z_w d_M_seated cl 86 [some (vr r0), none, some (vi x2), some (vi x3), some (vi (x4 + (1 : Int32))), none] [] σ3)))
  else
    z_g (z_kd σ r0 == 12) (z_bI (cl 252 [vr r0, vi x2] σ) (fun v2 σ1 =>
    if x3 = (-1 : Int32) then
      some (vi v2, σ1)
    else
      z_w d_M_seated cl 128 [some (vr r0), none, none, some (vi x3), none, some (vi (0 : Int32))] [] σ1))) := (z_w_eq _ _ _ _ _ _).trans rfl
set_option maxRecDepth 100000 in
theorem e_M_seated_128 (cl : Nat → List ZV → ZM → ZR) (r0 : Nat) (x3 : Int32) (x5 : Int32) (σ : ZM) : z_w d_M_seated cl 128 [some (vr r0), none, none, some (vi x3), none, some (vi x5)] [] σ =
  z_g (z_kd σ r0 == 12) (z_g (z_at σ (z_r σ r0 26) 20 x5) (if (z_i σ (z_r σ r0 26) x5.toNatClampNeg) = x3 then
    z_g (z_kd σ r0 == 12) (z_g (z_at σ (z_r σ r0 29) 20 x5) (some (vi (z_i σ (z_r σ r0 29) x5.toNatClampNeg), σ)))
  else
    z_w d_M_seated cl 128 [some (vr r0), none, none, some (vi x3), none, some (vi (x5 + (1 : Int32)))] [] σ)) := (z_w_eq _ _ _ _ _ _).trans rfl
set_option maxRecDepth 100000 in
theorem e_Qu_takeBlockAir (d : Nat) (r0 : Nat) (x1 : Int32) (σ : ZM) : z_call (d + 1) 254 [vr r0, vi x1] σ =
  z_g (z_kd σ r0 == 6) (z_bV (z_call d 4 [vr (z_r σ r0 5), vi (0 : Int32)] σ) (fun σ1 =>
  z_w d_Qu_takeBlockAir (z_call d) 10 [some (vr r0), some (vi x1), some (vi (0 : Int32)), none, none, none] [] σ1)) := (z_w_eq _ _ _ _ _ _).trans rfl
set_option maxRecDepth 100000 in
theorem e_Qu_takeBlockAir_10 (cl : Nat → List ZV → ZM → ZR) (r0 : Nat) (x1 : Int32) (x2 : Int32) (σ : ZM) : z_w d_Qu_takeBlockAir cl 10 [some (vr r0), some (vi x1), some (vi x2), none, none, none] [] σ =
  z_g (z_kd σ r0 == 6) (z_g (z_kd σ (z_r σ r0 0) == 4) (if x2 < (z_i σ (z_r σ r0 0) 3) then
    z_g (z_kd σ r0 == 6) (z_g (z_kd σ (z_r σ r0 1) == 5) (z_g (z_at σ (z_r σ (z_r σ r0 1) 0) 20 x2) (z_x (z_i σ (z_r σ (z_r σ r0 1) 0) x2.toNatClampNeg) (fun u1 => z_w d_Qu_takeBlockAir cl 34 [some (vr r0), some (vi x1), some (vi x2), some (vi u1), some (vi (0 : Int32)), none] [] σ))))
  else
    some (vi 0, σ))) := (z_w_eq _ _ _ _ _ _).trans rfl
set_option maxRecDepth 100000 in
theorem e_Qu_takeBlockAir_34 (cl : Nat → List ZV → ZM → ZR) (r0 : Nat) (x1 : Int32) (x2 : Int32) (x3 : Int32) (x4 : Int32) (σ : ZM) : z_w d_Qu_takeBlockAir cl 34 [some (vr r0), some (vi x1), some (vi x2), some (vi x3), some (vi x4), none] [] σ =
  if x4 < (2 : Int32) then
    if x3 = (-1 : Int32) then
      z_w d_Qu_takeBlockAir cl 10 [some (vr r0), some (vi x1), some (vi (x2 + (1 : Int32))), none, none, none] [] σ
    else
      z_g (z_kd σ r0 == 6) (z_g (z_kd σ r0 == 6) (z_g (z_kd σ (z_r σ r0 1) == 5) (z_g (z_at σ (z_r σ (z_r σ r0 1) 1) 20 x2) (z_g (z_kd σ r0 == 6) (z_g (z_kd σ (z_r σ r0 0) == 4) (z_g (z_at σ (z_r σ (z_r σ r0 0) 6) 20 x2) (z_g (z_kd σ (z_r σ r0 3) == 1) (z_bI (cl 191 [vr (z_r σ r0 3), vi x2, vi x1, vi x3, vi (z_i σ (z_r σ (z_r σ r0 1) 1) x2.toNatClampNeg), vi (-x4), vi (z_i σ (z_r σ (z_r σ r0 0) 6) x2.toNatClampNeg)] σ) (fun v2 σ1 =>
      z_g (z_kd σ1 r0 == 6) (z_g (z_kd σ1 r0 == 6) (z_g (z_kd σ1 (z_r σ1 r0 0) == 4) (z_g (z_at σ1 (z_r σ1 (z_r σ1 r0 0) 1) 20 x3) (z_x (z_r σ1 r0 5) (fun u3 => z_x (((2 : Int32) * (z_i σ1 (z_r σ1 (z_r σ1 r0 0) 1) x3.toNatClampNeg)) + x4) (fun u4 => z_g (z_at σ1 u3 20 u4) (z_g (z_at σ1 u3 20 u4 && Nat.ble 10 u3) (z_x (z_ui σ1 u3 u4.toNatClampNeg ((z_i σ1 u3 u4.toNatClampNeg) + v2)) (fun σ5 =>
      z_g (z_kd σ5 r0 == 6) (z_g (z_at σ5 (z_r σ5 r0 6) 20 (((2 : Int32) * x2) + x4) && Nat.ble 10 (z_r σ5 r0 6)) (z_x (z_ui σ5 (z_r σ5 r0 6) (((2 : Int32) * x2) + x4).toNatClampNeg (-v2)) (fun σ6 =>
      z_w d_Qu_takeBlockAir cl 34 [some (vr r0), some (vi x1), some (vi x2), some (vi x3), some (vi (x4 + (1 : Int32))), none] [] σ6)))))))))))))))))))))
  else
    z_w d_Qu_takeBlockAir cl 10 [some (vr r0), some (vi x1), some (vi (x2 + (1 : Int32))), none, none, none] [] σ := (z_w_eq _ _ _ _ _ _).trans rfl
set_option maxRecDepth 100000 in
theorem e_Qu_airBy (d : Nat) (r0 : Nat) (x1 : Int32) (σ : ZM) : z_call (d + 1) 255 [vr r0, vi x1] σ =
  z_w d_Qu_airBy (z_call d) 4 [some (vr r0), some (vi x1), some (vi (0 : Int32)), some (vi (0 : Int32))] [] σ := (z_w_eq _ _ _ _ _ _).trans rfl
set_option maxRecDepth 100000 in
theorem e_Qu_airBy_4 (cl : Nat → List ZV → ZM → ZR) (r0 : Nat) (x1 : Int32) (x2 : Int32) (x3 : Int32) (σ : ZM) : z_w d_Qu_airBy cl 4 [some (vr r0), some (vi x1), some (vi x2), some (vi x3)] [] σ =
  if x3 < (4 : Int32) then
    z_g (z_kd σ r0 == 6) (z_g (z_at σ (z_r σ r0 5) 20 (((2 : Int32) * x3) + ((x1 >>> (x3 &&& 31)) &&& (1 : Int32)))) (z_x (x2 + (z_i σ (z_r σ r0 5) (((2 : Int32) * x3) + ((x1 >>> (x3 &&& 31)) &&& (1 : Int32))).toNatClampNeg)) (fun u1 => z_w d_Qu_airBy cl 4 [some (vr r0), some (vi x1), some (vi u1), some (vi (x3 + (1 : Int32)))] [] σ)))
  else
    some (vi x2, σ) := (z_w_eq _ _ _ _ _ _).trans rfl
set_option maxRecDepth 100000 in
theorem e_Qu_setsThatHold (d : Nat) (r0 : Nat) (x1 : Int32) (σ : ZM) : z_call (d + 1) 256 [vr r0, vi x1] σ =
  z_g (z_kd σ r0 == 6) (z_g (z_kd σ (z_r σ r0 0) == 4) (z_g (z_at σ (z_r σ (z_r σ r0 0) 8) 20 x1) (z_g (z_kd σ r0 == 6) (z_bV (z_call d 254 [vr r0, vi (z_i σ (z_r σ (z_r σ r0 0) 8) x1.toNatClampNeg)] σ) (fun σ1 =>
  z_g (z_kd σ1 r0 == 6) (z_g (z_kd σ1 (z_r σ1 r0 3) == 1) (z_bV (z_call d 238 [vr (z_r σ1 r0 3), vi x1] σ1) (fun σ2 =>
  z_w d_Qu_setsThatHold (z_call d) 25 [some (vr r0), none, some (vi (0 : Int32)), some (vi (0 : Int32))] [] σ2)))))))) := (z_w_eq _ _ _ _ _ _).trans rfl
set_option maxRecDepth 100000 in
theorem e_Qu_setsThatHold_25 (cl : Nat → List ZV → ZM → ZR) (r0 : Nat) (x2 : Int32) (x3 : Int32) (σ : ZM) : z_w d_Qu_setsThatHold cl 25 [some (vr r0), none, some (vi x2), some (vi x3)] [] σ =
  if x3 < (16 : Int32) then
    z_g (z_kd σ r0 == 6) (z_g (z_kd σ r0 == 6) (z_bI (cl 255 [vr r0, vi x3] σ) (fun v2 σ1 =>
    z_g (z_kd σ1 (z_r σ r0 3) == 1) (z_bI (cl 240 [vr (z_r σ r0 3), vi v2] σ1) (fun v4 σ3 =>
    if v4 = 0 then
      z_w d_Qu_setsThatHold cl 25 [some (vr r0), none, some (vi x2), some (vi (x3 + (1 : Int32)))] [] σ3
    else
      z_x (x2 ||| ((1 : Int32) <<< (x3 &&& 31))) (fun u5 => z_w d_Qu_setsThatHold cl 25 [some (vr r0), none, some (vi u5), some (vi (x3 + (1 : Int32)))] [] σ3))))))
  else
    some (vi x2, σ) := (z_w_eq _ _ _ _ _ _).trans rfl
set_option maxRecDepth 100000 in
theorem e_Qu_fewestUshers (d : Nat) (r0 : Nat) (x1 : Int32) (σ : ZM) : z_call (d + 1) 257 [vr r0, vi x1] σ =
  z_w d_Qu_fewestUshers (z_call d) 5 [some (vr r0), some (vi x1), some (vi (65535 : Int32)), some (vi (0 : Int32)), none] [] σ := (z_w_eq _ _ _ _ _ _).trans rfl
set_option maxRecDepth 100000 in
theorem e_Qu_fewestUshers_5 (cl : Nat → List ZV → ZM → ZR) (r0 : Nat) (x1 : Int32) (x2 : Int32) (x3 : Int32) (σ : ZM) : z_w d_Qu_fewestUshers cl 5 [some (vr r0), some (vi x1), some (vi x2), some (vi x3), none] [] σ =
  z_g (z_kd σ r0 == 6) (z_g (z_kd σ (z_r σ r0 0) == 4) (if x3 < (z_i σ (z_r σ r0 0) 7) then
    z_bI (cl 137 [vi x1, vi x3] σ) (fun v2 σ1 =>
    if v2 = 0 then
      z_w d_Qu_fewestUshers cl 5 [some (vr r0), some (vi x1), some (vi x2), some (vi (x3 + (1 : Int32))), none] [] σ1
    else
      z_g (z_kd σ1 r0 == 6) (z_bI (cl 256 [vr r0, vi x3] σ1) (fun v4 σ3 =>
      z_x (x2 &&& v4) (fun u5 => z_w d_Qu_fewestUshers cl 5 [some (vr r0), some (vi x1), some (vi u5), some (vi (x3 + (1 : Int32))), none] [] σ3))))
  else
    z_w d_Qu_fewestUshers cl 43 [none, none, some (vi x2), some (vi (-1 : Int32)), some (vi (0 : Int32))] [] σ)) := (z_w_eq _ _ _ _ _ _).trans rfl
set_option maxRecDepth 100000 in
theorem e_Qu_fewestUshers_43 (cl : Nat → List ZV → ZM → ZR) (x2 : Int32) (x3 : Int32) (x4 : Int32) (σ : ZM) : z_w d_Qu_fewestUshers cl 43 [none, none, some (vi x2), some (vi x3), some (vi x4)] [] σ =
  if x4 < (16 : Int32) then
    z_bI (cl 137 [vi x2, vi x4] σ) (fun v2 σ1 =>
    if v2 = 0 then
      z_w d_Qu_fewestUshers cl 43 [none, none, some (vi x2), some (vi x3), some (vi (x4 + (1 : Int32)))] [] σ1
    else
      if x3 = (-1 : Int32) then
        z_w d_Qu_fewestUshers cl 43 [none, none, some (vi x2), some (vi x4), some (vi (x4 + (1 : Int32)))] [] σ1
      else
        z_bI (cl 233 [vi x4] σ1) (fun v4 σ3 =>
        z_bI (cl 233 [vi x3] σ3) (fun v6 σ5 =>
        if v4 < v6 then
          z_w d_Qu_fewestUshers cl 43 [none, none, some (vi x2), some (vi x4), some (vi (x4 + (1 : Int32)))] [] σ5
        else
          z_w d_Qu_fewestUshers cl 43 [none, none, some (vi x2), some (vi x3), some (vi (x4 + (1 : Int32)))] [] σ5)))
  else
    some (vi x3, σ) := (z_w_eq _ _ _ _ _ _).trans rfl
set_option maxRecDepth 100000 in
theorem e_B_ushers (d : Nat) (r0 : Nat) (x1 : Int32) (σ : ZM) : z_call (d + 1) 258 [vr r0, vi x1] σ =
  z_g (z_kd σ r0 == 11) (z_g (z_kd σ (z_r σ r0 0) == 4) (z_bI (z_call d 220 [vr (z_r σ r0 0), vi x1] σ) (fun v2 σ1 =>
  if v2 = 0 then
    some (vi (-1 : Int32), σ1)
  else
    z_g (z_kd σ1 r0 == 11) (z_g (z_kd σ1 (z_r σ1 r0 13) == 6) (z_bI (z_call d 257 [vr (z_r σ1 r0 13), vi x1] σ1) (fun v4 σ3 =>
    some (vi v4, σ3))))))) := (z_w_eq _ _ _ _ _ _).trans rfl
set_option maxRecDepth 100000 in
theorem e_M_ushers (d : Nat) (r0 : Nat) (x1 : Int32) (σ : ZM) : z_call (d + 1) 259 [vr r0, vi x1] σ =
  z_g (z_kd σ r0 == 12) (z_bI (z_call d 225 [vr r0, vi x1] σ) (fun v2 σ1 =>
  if v2 = 0 then
    some (vi (-1 : Int32), σ1)
  else
    z_g (z_kd σ1 r0 == 12) (z_g (z_at σ1 (z_r σ1 r0 0) 20 (8 : Int32)) (z_x (z_i σ1 (z_r σ1 r0 0) (8 : Int32).toNatClampNeg) (fun u3 => z_w d_M_ushers (z_call d) 23 [some (vr r0), some (vi x1), some (vi u3), some (vi (-1 : Int32)), some (vi (0 : Int32))] [] σ1))))) := (z_w_eq _ _ _ _ _ _).trans rfl
set_option maxRecDepth 100000 in
theorem e_M_ushers_23 (cl : Nat → List ZV → ZM → ZR) (r0 : Nat) (x1 : Int32) (x2 : Int32) (x3 : Int32) (x4 : Int32) (σ : ZM) : z_w d_M_ushers cl 23 [some (vr r0), some (vi x1), some (vi x2), some (vi x3), some (vi x4)] [] σ =
  if x4 < (16 : Int32) then
    if x3 = (-1 : Int32) then
      z_g (z_kd σ r0 == 12) (z_g (z_at σ (z_r σ r0 0) 20 (8 : Int32) && Nat.ble 10 (z_r σ r0 0)) (z_x (z_ui σ (z_r σ r0 0) (8 : Int32).toNatClampNeg x4) (fun σ2 =>
      z_g (z_kd σ2 r0 == 12) (z_bI (cl 218 [vr r0] σ2) (fun v4 σ3 =>
      if (v4 &&& x1) = 0 then
        z_w d_M_ushers cl 23 [some (vr r0), some (vi x1), some (vi x2), some (vi x4), some (vi (x4 + (1 : Int32)))] [] σ3
      else
        z_w d_M_ushers cl 23 [some (vr r0), some (vi x1), some (vi x2), some (vi x3), some (vi (x4 + (1 : Int32)))] [] σ3)))))
    else
      z_bI (cl 247 [vi x4] σ) (fun v6 σ5 =>
      z_bI (cl 247 [vi x3] σ5) (fun v8 σ7 =>
      if v6 < v8 then
        z_g (z_kd σ7 r0 == 12) (z_g (z_at σ7 (z_r σ7 r0 0) 20 (8 : Int32) && Nat.ble 10 (z_r σ7 r0 0)) (z_x (z_ui σ7 (z_r σ7 r0 0) (8 : Int32).toNatClampNeg x4) (fun σ9 =>
        z_g (z_kd σ9 r0 == 12) (z_bI (cl 218 [vr r0] σ9) (fun v11 σ10 =>
        if (v11 &&& x1) = 0 then
          z_w d_M_ushers cl 23 [some (vr r0), some (vi x1), some (vi x2), some (vi x4), some (vi (x4 + (1 : Int32)))] [] σ10
        else
          z_w d_M_ushers cl 23 [some (vr r0), some (vi x1), some (vi x2), some (vi x3), some (vi (x4 + (1 : Int32)))] [] σ10)))))
      else
        z_w d_M_ushers cl 23 [some (vr r0), some (vi x1), some (vi x2), some (vi x3), some (vi (x4 + (1 : Int32)))] [] σ7))
  else
    z_g (z_kd σ r0 == 12) (z_g (z_at σ (z_r σ r0 0) 20 (8 : Int32) && Nat.ble 10 (z_r σ r0 0)) (z_x (z_ui σ (z_r σ r0 0) (8 : Int32).toNatClampNeg x2) (fun σ1 =>
    some (vi x3, σ1)))) := (z_w_eq _ _ _ _ _ _).trans rfl
set_option maxRecDepth 100000 in
theorem e_Qu_takeChanges (d : Nat) (r0 : Nat) (x1 : Int32) (σ : ZM) : z_call (d + 1) 260 [vr r0, vi x1] σ =
  z_w d_Qu_takeChanges (z_call d) 2 [some (vr r0), some (vi x1), some (vi (0 : Int32))] [] σ := (z_w_eq _ _ _ _ _ _).trans rfl
set_option maxRecDepth 100000 in
theorem e_Qu_takeChanges_2 (cl : Nat → List ZV → ZM → ZR) (r0 : Nat) (x1 : Int32) (x2 : Int32) (σ : ZM) : z_w d_Qu_takeChanges cl 2 [some (vr r0), some (vi x1), some (vi x2)] [] σ =
  z_g (z_kd σ r0 == 6) (z_g (z_kd σ (z_r σ r0 0) == 4) (if x2 < (z_i σ (z_r σ r0 0) 3) then
    z_g (z_kd σ r0 == 6) (z_x (z_r σ r0 6) (fun u1 => z_x ((2 : Int32) * x2) (fun u2 => z_g (z_at σ u1 20 u2) (z_g (z_kd σ r0 == 6) (z_g (z_kd σ (z_r σ r0 3) == 1) (z_bI (cl 221 [vr (z_r σ r0 3), vi x2, vi x1, vi (0 : Int32)] σ) (fun v4 σ3 =>
    z_g (z_at σ3 u1 20 u2 && Nat.ble 10 u1) (z_x (z_ui σ3 u1 u2.toNatClampNeg ((z_i σ u1 u2.toNatClampNeg) + v4)) (fun σ5 =>
    z_g (z_kd σ5 r0 == 6) (z_x (z_r σ5 r0 6) (fun u6 => z_x (((2 : Int32) * x2) + (1 : Int32)) (fun u7 => z_g (z_at σ5 u6 20 u7) (z_g (z_kd σ5 r0 == 6) (z_g (z_kd σ5 (z_r σ5 r0 3) == 1) (z_bI (cl 221 [vr (z_r σ5 r0 3), vi x2, vi x1, vi (-1 : Int32)] σ5) (fun v9 σ8 =>
    z_g (z_at σ8 u6 20 u7 && Nat.ble 10 u6) (z_x (z_ui σ8 u6 u7.toNatClampNeg ((z_i σ5 u6 u7.toNatClampNeg) + v9)) (fun σ10 =>
    z_w d_Qu_takeChanges cl 2 [some (vr r0), some (vi x1), some (vi (x2 + (1 : Int32)))] [] σ10))))))))))))))))))
  else
    some (vi 0, σ))) := (z_w_eq _ _ _ _ _ _).trans rfl
set_option maxRecDepth 100000 in
theorem e_Qu_canBeHad (d : Nat) (r0 : Nat) (x1 : Int32) (σ : ZM) : z_call (d + 1) 261 [vr r0, vi x1] σ =
  z_g (z_kd σ r0 == 6) (z_bI (z_call d 256 [vr r0, vi x1] σ) (fun v2 σ1 =>
  if v2 = 0 then
    z_g (z_kd σ1 r0 == 6) (z_g (z_kd σ1 (z_r σ1 r0 0) == 4) (z_g (z_at σ1 (z_r σ1 (z_r σ1 r0 0) 8) 20 x1) (z_g (z_kd σ1 r0 == 6) (z_bV (z_call d 260 [vr r0, vi (z_i σ1 (z_r σ1 (z_r σ1 r0 0) 8) x1.toNatClampNeg)] σ1) (fun σ3 =>
    z_w d_Qu_canBeHad (z_call d) 25 [some (vr r0), none, some (vi (0 : Int32)), none, none, none] [] σ3)))))
  else
    some (vi (1 : Int32), σ1))) := (z_w_eq _ _ _ _ _ _).trans rfl
set_option maxRecDepth 100000 in
theorem e_Qu_canBeHad_25 (cl : Nat → List ZV → ZM → ZR) (r0 : Nat) (x2 : Int32) (σ : ZM) : z_w d_Qu_canBeHad cl 25 [some (vr r0), none, some (vi x2), none, none, none] [] σ =
  if x2 < (16 : Int32) then
    z_g (z_kd σ r0 == 6) (z_bI (cl 255 [vr r0, vi x2] σ) (fun v2 σ1 =>
    z_w d_Qu_canBeHad cl 40 [some (vr r0), none, some (vi x2), some (vi v2), some (vi (0 : Int32)), none] [] σ1))
  else
    some (vi (0 : Int32), σ) := (z_w_eq _ _ _ _ _ _).trans rfl
set_option maxRecDepth 100000 in
theorem e_Qu_canBeHad_40 (cl : Nat → List ZV → ZM → ZR) (r0 : Nat) (x2 : Int32) (x3 : Int32) (x4 : Int32) (σ : ZM) : z_w d_Qu_canBeHad cl 40 [some (vr r0), none, some (vi x2), some (vi x3), some (vi x4), none] [] σ =
  z_g (z_kd σ r0 == 6) (z_g (z_kd σ (z_r σ r0 0) == 4) (if x4 < (z_i σ (z_r σ r0 0) 3) then
    z_g (z_kd σ r0 == 6) (z_g (z_kd σ (z_r σ r0 1) == 5) (z_g (z_at σ (z_r σ (z_r σ r0 1) 0) 20 x4) (z_x (z_i σ (z_r σ (z_r σ r0 1) 0) x4.toNatClampNeg) (fun u1 => if u1 = (-1 : Int32) then
      z_w d_Qu_canBeHad cl 40 [some (vr r0), none, some (vi x2), some (vi x3), some (vi (x4 + (1 : Int32))), none] [] σ
    else
      z_g (z_kd σ r0 == 6) (z_g (z_kd σ r0 == 6) (z_g (z_kd σ r0 == 6) (z_g (z_kd σ (z_r σ r0 0) == 4) (z_g (z_at σ (z_r σ (z_r σ r0 0) 1) 20 u1) (z_g (z_at σ (z_r σ r0 6) 20 (((2 : Int32) * x4) + ((x2 >>> ((z_i σ (z_r σ (z_r σ r0 0) 1) u1.toNatClampNeg) &&& 31)) &&& (1 : Int32)))) (z_g (z_kd σ (z_r σ r0 3) == 1) (z_bI (cl 240 [vr (z_r σ r0 3), vi (x3 + (z_i σ (z_r σ r0 6) (((2 : Int32) * x4) + ((x2 >>> ((z_i σ (z_r σ (z_r σ r0 0) 1) u1.toNatClampNeg) &&& 31)) &&& (1 : Int32))).toNatClampNeg))] σ) (fun v3 σ2 =>
      if v3 = 0 then
        z_w d_Qu_canBeHad cl 40 [some (vr r0), none, some (vi x2), some (vi x3), some (vi (x4 + (1 : Int32))), none] [] σ2
      else
        some (vi (1 : Int32), σ2)))))))))))))
  else
    z_w d_Qu_canBeHad cl 25 [some (vr r0), none, some (vi (x2 + (1 : Int32))), none, none, none] [] σ)) := (z_w_eq _ _ _ _ _ _).trans rfl
set_option maxRecDepth 100000 in
theorem e_Qu_outOfReach (d : Nat) (r0 : Nat) (σ : ZM) : z_call (d + 1) 262 [vr r0] σ =
  z_w d_Qu_outOfReach (z_call d) 4 [some (vr r0), some (vi (0 : Int32)), some (vi (0 : Int32))] [] σ := (z_w_eq _ _ _ _ _ _).trans rfl
set_option maxRecDepth 100000 in
theorem e_Qu_outOfReach_4 (cl : Nat → List ZV → ZM → ZR) (r0 : Nat) (x1 : Int32) (x2 : Int32) (σ : ZM) : z_w d_Qu_outOfReach cl 4 [some (vr r0), some (vi x1), some (vi x2)] [] σ =
  z_g (z_kd σ r0 == 6) (z_g (z_kd σ (z_r σ r0 0) == 4) (if x2 < (z_i σ (z_r σ r0 0) 7) then
    z_g (z_kd σ r0 == 6) (z_bI (cl 261 [vr r0, vi x2] σ) (fun v2 σ1 =>
    if v2 = 0 then
      z_x (x1 ||| ((1 : Int32) <<< (x2 &&& 31))) (fun u3 => z_w d_Qu_outOfReach cl 4 [some (vr r0), some (vi u3), some (vi (x2 + (1 : Int32)))] [] σ1)
    else
      z_w d_Qu_outOfReach cl 4 [some (vr r0), some (vi x1), some (vi (x2 + (1 : Int32)))] [] σ1))
  else
    some (vi x1, σ))) := (z_w_eq _ _ _ _ _ _).trans rfl
set_option maxRecDepth 100000 in
theorem e_B_cannot (d : Nat) (r0 : Nat) (σ : ZM) : z_call (d + 1) 263 [vr r0] σ =
  z_g (z_kd σ r0 == 11) (z_g (z_kd σ (z_r σ r0 13) == 6) (z_bI (z_call d 262 [vr (z_r σ r0 13)] σ) (fun v2 σ1 =>
  some (vi v2, σ1)))) := (z_w_eq _ _ _ _ _ _).trans rfl
set_option maxRecDepth 100000 in
theorem e_M_cannot (d : Nat) (r0 : Nat) (σ : ZM) : z_call (d + 1) 264 [vr r0] σ =
  z_g (z_kd σ r0 == 12) (z_g (z_at σ (z_r σ r0 0) 20 (8 : Int32)) (z_x (z_i σ (z_r σ r0 0) (8 : Int32).toNatClampNeg) (fun u1 => z_g (z_kd σ r0 == 12) (z_g (z_at σ (z_r σ r0 0) 20 (2 : Int32)) (z_x (((1 : Int32) <<< ((z_i σ (z_r σ r0 0) (2 : Int32).toNatClampNeg) &&& 31)) - (1 : Int32)) (fun u2 => z_w d_M_cannot (z_call d) 21 [some (vr r0), some (vi u1), some (vi u2), some (vi (0 : Int32)), none, none] [] σ)))))) := (z_w_eq _ _ _ _ _ _).trans rfl
set_option maxRecDepth 100000 in
theorem e_M_cannot_21 (cl : Nat → List ZV → ZM → ZR) (r0 : Nat) (x1 : Int32) (x2 : Int32) (x3 : Int32) (σ : ZM) : z_w d_M_cannot cl 21 [some (vr r0), some (vi x1), some (vi x2), some (vi x3), none, none] [] σ =
  if x3 < (16 : Int32) then
    z_g (z_kd σ r0 == 12) (z_g (z_at σ (z_r σ r0 0) 20 (8 : Int32) && Nat.ble 10 (z_r σ r0 0)) (z_x (z_ui σ (z_r σ r0 0) (8 : Int32).toNatClampNeg x3) (fun σ2 =>
    z_g (z_kd σ2 r0 == 12) (z_bI (cl 218 [vr r0] σ2) (fun v4 σ3 =>
    z_x (x2 &&& v4) (fun u5 => z_w d_M_cannot cl 45 [some (vr r0), some (vi x1), some (vi u5), some (vi x3), some (vi (0 : Int32)), none] [] σ3))))))
  else
    z_g (z_kd σ r0 == 12) (z_g (z_at σ (z_r σ r0 0) 20 (8 : Int32) && Nat.ble 10 (z_r σ r0 0)) (z_x (z_ui σ (z_r σ r0 0) (8 : Int32).toNatClampNeg x1) (fun σ1 =>
    some (vi x2, σ1)))) := (z_w_eq _ _ _ _ _ _).trans rfl
set_option maxRecDepth 100000 in
theorem e_M_cannot_45 (cl : Nat → List ZV → ZM → ZR) (r0 : Nat) (x1 : Int32) (x2 : Int32) (x3 : Int32) (x4 : Int32) (σ : ZM) : z_w d_M_cannot cl 45 [some (vr r0), some (vi x1), some (vi x2), some (vi x3), some (vi x4), none] [] σ =
  z_g (z_kd σ r0 == 12) (z_g (z_at σ (z_r σ r0 0) 20 (1 : Int32)) (if x4 < (z_i σ (z_r σ r0 0) (1 : Int32).toNatClampNeg) then
    z_g (z_kd σ r0 == 12) (z_bI (cl 226 [vr r0, vi x4] σ) (fun v2 σ1 =>
    z_g (z_kd σ1 r0 == 12) (z_bI (cl 218 [vr r0] σ1) (fun v4 σ3 =>
    z_x (x2 &&& v4) (fun u5 => z_g (z_kd σ3 r0 == 12) (z_bV (cl 23 [vr r0, vi x4, vi (4 : Int32), vi v2] σ3) (fun σ6 =>
    z_w d_M_cannot cl 45 [some (vr r0), some (vi x1), some (vi u5), some (vi x3), some (vi (x4 + (1 : Int32))), none] [] σ6)))))))
  else
    z_w d_M_cannot cl 21 [some (vr r0), some (vi x1), some (vi x2), some (vi (x3 + (1 : Int32))), none, none] [] σ)) := (z_w_eq _ _ _ _ _ _).trans rfl
set_option maxRecDepth 100000 in
theorem e_Qu_heldLater (d : Nat) (r0 : Nat) (x1 : Int32) (σ : ZM) : z_call (d + 1) 265 [vr r0, vi x1] σ =
  z_w d_Qu_heldLater (z_call d) 4 [some (vr r0), some (vi x1), some (vi (0 : Int32)), some (vi (0 : Int32)), none] [] σ := (z_w_eq _ _ _ _ _ _).trans rfl
set_option maxRecDepth 100000 in
theorem e_Qu_heldLater_4 (cl : Nat → List ZV → ZM → ZR) (r0 : Nat) (x1 : Int32) (x2 : Int32) (x3 : Int32) (σ : ZM) : z_w d_Qu_heldLater cl 4 [some (vr r0), some (vi x1), some (vi x2), some (vi x3), none] [] σ =
  z_g (z_kd σ r0 == 6) (z_g (z_kd σ (z_r σ r0 0) == 4) (if x3 < (z_i σ (z_r σ r0 0) 7) then
    z_g (z_kd σ r0 == 6) (z_g (z_kd σ (z_r σ r0 0) == 4) (z_g (z_at σ (z_r σ (z_r σ r0 0) 8) 20 x3) (z_x ((z_i σ (z_r σ (z_r σ r0 0) 8) x3.toNatClampNeg) + x1) (fun u1 => z_g (z_kd σ r0 == 6) (z_g (z_kd σ r0 == 6) (z_g (z_kd σ (z_r σ r0 0) == 4) (z_bR (cl 144 [vr (z_r σ r0 0)] σ) (fun v3 σ2 =>
    z_g (z_kd σ2 r0 == 6) (z_g (z_kd σ2 (z_r σ2 r0 3) == 1) (z_bI (cl 200 [vr (z_r σ2 r0 3), vi u1] σ2) (fun v5 σ4 =>
    z_g (z_kd σ4 (z_r σ r0 3) == 1) (z_bI (cl 201 [vr (z_r σ r0 3), vr v3, vi x3, vi u1, vi v5] σ4) (fun v7 σ6 =>
    if v7 = 0 then
      z_w d_Qu_heldLater cl 4 [some (vr r0), some (vi x1), some (vi x2), some (vi (x3 + (1 : Int32))), none] [] σ6
    else
      z_x (x2 + (1 : Int32)) (fun u8 => z_w d_Qu_heldLater cl 4 [some (vr r0), some (vi x1), some (vi u8), some (vi (x3 + (1 : Int32))), none] [] σ6))))))))))))))
  else
    some (vi x2, σ))) := (z_w_eq _ _ _ _ _ _).trans rfl
set_option maxRecDepth 100000 in
theorem e_Qu_bestShift (d : Nat) (r0 : Nat) (x1 : Int32) (σ : ZM) : z_call (d + 1) 266 [vr r0, vi x1] σ =
  z_w d_Qu_bestShift (z_call d) 7 [some (vr r0), some (vi x1), some (vi (0 : Int32)), some (vi (-1 : Int32)), some (vi (0 : Int32)), none] [] σ := (z_w_eq _ _ _ _ _ _).trans rfl
set_option maxRecDepth 100000 in
theorem e_Qu_bestShift_7 (cl : Nat → List ZV → ZM → ZR) (r0 : Nat) (x1 : Int32) (x2 : Int32) (x3 : Int32) (x4 : Int32) (σ : ZM) : z_w d_Qu_bestShift cl 7 [some (vr r0), some (vi x1), some (vi x2), some (vi x3), some (vi x4), none] [] σ =
  if (17 : Int32) < x4 then
    if x1 = 0 then
      some (vi x2, σ)
    else
      some (vi x3, σ)
  else
    z_g (z_kd σ r0 == 6) (z_bI (cl 265 [vr r0, vi x4] σ) (fun v2 σ1 =>
    if x3 < v2 then
      z_w d_Qu_bestShift cl 7 [some (vr r0), some (vi x1), some (vi x4), some (vi v2), some (vi (x4 + (1 : Int32))), none] [] σ1
    else
      z_w d_Qu_bestShift cl 7 [some (vr r0), some (vi x1), some (vi x2), some (vi x3), some (vi (x4 + (1 : Int32))), none] [] σ1)) := (z_w_eq _ _ _ _ _ _).trans rfl
set_option maxRecDepth 100000 in
theorem e_B_shift (d : Nat) (r0 : Nat) (x1 : Int32) (σ : ZM) : z_call (d + 1) 267 [vr r0, vi x1] σ =
  z_g (z_kd σ r0 == 11) (z_g (z_kd σ (z_r σ r0 13) == 6) (z_bI (z_call d 266 [vr (z_r σ r0 13), vi x1] σ) (fun v2 σ1 =>
  some (vi v2, σ1)))) := (z_w_eq _ _ _ _ _ _).trans rfl
set_option maxRecDepth 100000 in
theorem e_M_shift (d : Nat) (r0 : Nat) (x1 : Int32) (σ : ZM) : z_call (d + 1) 268 [vr r0, vi x1] σ =
  z_w d_M_shift (z_call d) 4 [some (vr r0), some (vi x1), some (vi (0 : Int32)), some (vi (1 : Int32))] [] σ := (z_w_eq _ _ _ _ _ _).trans rfl
set_option maxRecDepth 100000 in
theorem e_M_shift_4 (cl : Nat → List ZV → ZM → ZR) (r0 : Nat) (x1 : Int32) (x2 : Int32) (x3 : Int32) (σ : ZM) : z_w d_M_shift cl 4 [some (vr r0), some (vi x1), some (vi x2), some (vi x3)] [] σ =
  if x3 < (18 : Int32) then
    z_g (z_kd σ r0 == 12) (z_bI (cl 250 [vr r0, vi x3] σ) (fun v4 σ3 =>
    z_g (z_kd σ3 r0 == 12) (z_bI (cl 250 [vr r0, vi x2] σ3) (fun v6 σ5 =>
    if v6 < v4 then
      z_w d_M_shift cl 4 [some (vr r0), some (vi x1), some (vi x3), some (vi (x3 + (1 : Int32)))] [] σ5
    else
      z_w d_M_shift cl 4 [some (vr r0), some (vi x1), some (vi x2), some (vi (x3 + (1 : Int32)))] [] σ5))))
  else
    if x1 = 0 then
      some (vi x2, σ)
    else
      z_g (z_kd σ r0 == 12) (z_bI (cl 250 [vr r0, vi x2] σ) (fun v2 σ1 =>
      some (vi v2, σ1))) := (z_w_eq _ _ _ _ _ _).trans rfl
set_option maxRecDepth 100000 in
theorem e_Qu_phaseOf (d : Nat) (r0 : Nat) (x1 : Int32) (σ : ZM) : z_call (d + 1) 269 [vr r0, vi x1] σ =
  z_g (z_kd σ r0 == 6) (z_g (z_kd σ (z_r σ r0 3) == 1) (z_bI (z_call d 189 [vr (z_r σ r0 3), vi x1, vi (0 : Int32)] σ) (fun v2 σ1 =>
  z_g (z_kd σ1 r0 == 6) (z_g (z_kd σ1 (z_r σ1 r0 0) == 4) (z_g (z_at σ1 (z_r σ1 (z_r σ1 r0 0) 5) 20 x1) (z_bI (z_call d 190 [vi v2, vi ((2 : Int32) * (z_i σ1 (z_r σ1 (z_r σ1 r0 0) 5) x1.toNatClampNeg))] σ1) (fun v4 σ3 =>
  some (vi v4, σ3)))))))) := (z_w_eq _ _ _ _ _ _).trans rfl
set_option maxRecDepth 100000 in
theorem e_Qu_togetherWith (d : Nat) (r0 : Nat) (x1 : Int32) (σ : ZM) : z_call (d + 1) 270 [vr r0, vi x1] σ =
  z_g (z_kd σ r0 == 6) (z_g (z_kd σ (z_r σ r0 0) == 4) (z_g (z_at σ (z_r σ (z_r σ r0 0) 5) 20 x1) (z_x (z_i σ (z_r σ (z_r σ r0 0) 5) x1.toNatClampNeg) (fun u1 => z_g (z_kd σ r0 == 6) (z_bI (z_call d 269 [vr r0, vi x1] σ) (fun v3 σ2 =>
  z_w d_Qu_togetherWith (z_call d) 22 [some (vr r0), none, some (vi u1), some (vi v3), some (vi (0 : Int32)), some (vi (0 : Int32))] [] σ2)))))) := (z_w_eq _ _ _ _ _ _).trans rfl
set_option maxRecDepth 100000 in
theorem e_Qu_togetherWith_22 (cl : Nat → List ZV → ZM → ZR) (r0 : Nat) (x2 : Int32) (x3 : Int32) (x4 : Int32) (x5 : Int32) (σ : ZM) : z_w d_Qu_togetherWith cl 22 [some (vr r0), none, some (vi x2), some (vi x3), some (vi x4), some (vi x5)] [] σ =
  z_g (z_kd σ r0 == 6) (z_g (z_kd σ (z_r σ r0 0) == 4) (if x5 < (z_i σ (z_r σ r0 0) 3) then
    z_g (z_kd σ r0 == 6) (z_g (z_kd σ (z_r σ r0 0) == 4) (z_g (z_at σ (z_r σ (z_r σ r0 0) 5) 20 x5) (if (z_i σ (z_r σ (z_r σ r0 0) 5) x5.toNatClampNeg) = x2 then
      z_g (z_kd σ r0 == 6) (z_bI (cl 269 [vr r0, vi x5] σ) (fun v2 σ1 =>
      if v2 = x3 then
        z_x (x4 ||| ((1 : Int32) <<< (x5 &&& 31))) (fun u3 => z_w d_Qu_togetherWith cl 22 [some (vr r0), none, some (vi x2), some (vi x3), some (vi u3), some (vi (x5 + (1 : Int32)))] [] σ1)
      else
        z_w d_Qu_togetherWith cl 22 [some (vr r0), none, some (vi x2), some (vi x3), some (vi x4), some (vi (x5 + (1 : Int32)))] [] σ1))
    else
      z_w d_Qu_togetherWith cl 22 [some (vr r0), none, some (vi x2), some (vi x3), some (vi x4), some (vi (x5 + (1 : Int32)))] [] σ)))
  else
    some (vi x4, σ))) := (z_w_eq _ _ _ _ _ _).trans rfl
set_option maxRecDepth 100000 in
theorem e_B_inTime (d : Nat) (r0 : Nat) (x1 : Int32) (σ : ZM) : z_call (d + 1) 271 [vr r0, vi x1] σ =
  z_g (z_kd σ r0 == 11) (z_g (z_kd σ (z_r σ r0 0) == 4) (z_bI (z_call d 118 [vr (z_r σ r0 0), vi x1] σ) (fun v2 σ1 =>
  if v2 = 0 then
    some (vi (-1 : Int32), σ1)
  else
    z_g (z_kd σ1 r0 == 11) (z_g (z_kd σ1 (z_r σ1 r0 13) == 6) (z_bI (z_call d 270 [vr (z_r σ1 r0 13), vi x1] σ1) (fun v4 σ3 =>
    some (vi v4, σ3))))))) := (z_w_eq _ _ _ _ _ _).trans rfl
set_option maxRecDepth 100000 in
theorem e_M_inTimeWith (d : Nat) (r0 : Nat) (x1 : Int32) (σ : ZM) : z_call (d + 1) 272 [vr r0, vi x1] σ =
  z_g (z_kd σ r0 == 12) (z_bI (z_call d 126 [vr r0, vi x1, vi (1 : Int32)] σ) (fun v2 σ1 =>
  z_w d_M_inTimeWith (z_call d) 12 [some (vr r0), some (vi x1), some (vi v2), some (vi (0 : Int32)), some (vi (0 : Int32))] [] σ1)) := (z_w_eq _ _ _ _ _ _).trans rfl
set_option maxRecDepth 100000 in
theorem e_M_inTimeWith_12 (cl : Nat → List ZV → ZM → ZR) (r0 : Nat) (x1 : Int32) (x2 : Int32) (x3 : Int32) (x4 : Int32) (σ : ZM) : z_w d_M_inTimeWith cl 12 [some (vr r0), some (vi x1), some (vi x2), some (vi x3), some (vi x4)] [] σ =
  z_g (z_kd σ r0 == 12) (z_g (z_at σ (z_r σ r0 0) 20 (1 : Int32)) (if x4 < (z_i σ (z_r σ r0 0) (1 : Int32).toNatClampNeg) then
    z_g (z_kd σ r0 == 12) (z_bI (cl 126 [vr r0, vi x4, vi (1 : Int32)] σ) (fun v2 σ1 =>
    if v2 = x2 then
      z_g (z_kd σ1 r0 == 12) (z_bI (cl 160 [vr r0, vi x4, vi (0 : Int32)] σ1) (fun v5 σ4 =>
      z_bI (cl 194 [vi v5, vi ((2 : Int32) * x2)] σ4) (fun v7 σ6 =>
      z_g (z_kd σ6 r0 == 12) (z_bI (cl 160 [vr r0, vi x1, vi (0 : Int32)] σ6) (fun v9 σ8 =>
      z_bI (cl 194 [vi v9, vi ((2 : Int32) * x2)] σ8) (fun v11 σ10 =>
      if v7 = v11 then
        z_x (x3 ||| ((1 : Int32) <<< (x4 &&& 31))) (fun u13 => z_w d_M_inTimeWith cl 12 [some (vr r0), some (vi x1), some (vi x2), some (vi u13), some (vi (x4 + (1 : Int32)))] [] σ10)
      else
        z_x (x3 ||| (0 : Int32)) (fun u12 => z_w d_M_inTimeWith cl 12 [some (vr r0), some (vi x1), some (vi x2), some (vi u12), some (vi (x4 + (1 : Int32)))] [] σ10)))))))
    else
      z_x (x3 ||| (0 : Int32)) (fun u3 => z_w d_M_inTimeWith cl 12 [some (vr r0), some (vi x1), some (vi x2), some (vi u3), some (vi (x4 + (1 : Int32)))] [] σ1)))
  else
    some (vi x3, σ))) := (z_w_eq _ _ _ _ _ _).trans rfl
set_option maxRecDepth 100000 in
theorem e_M_inTime (d : Nat) (r0 : Nat) (x1 : Int32) (σ : ZM) : z_call (d + 1) 273 [vr r0, vi x1] σ =
  z_g (z_kd σ r0 == 12) (z_bI (z_call d 125 [vr r0, vi x1] σ) (fun v2 σ1 =>
  if v2 = 0 then
    some (vi (-1 : Int32), σ1)
  else
    z_g (z_kd σ1 r0 == 12) (z_bI (z_call d 272 [vr r0, vi x1] σ1) (fun v4 σ3 =>
    some (vi v4, σ3))))) := (z_w_eq _ _ _ _ _ _).trans rfl
set_option maxRecDepth 100000 in
theorem e_Qu_greatestChoir (d : Nat) (r0 : Nat) (σ : ZM) : z_call (d + 1) 274 [vr r0] σ =
  z_w d_Qu_greatestChoir (z_call d) 4 [some (vr r0), some (vi (0 : Int32)), some (vi (0 : Int32))] [] σ := (z_w_eq _ _ _ _ _ _).trans rfl
set_option maxRecDepth 100000 in
theorem e_Qu_greatestChoir_4 (cl : Nat → List ZV → ZM → ZR) (r0 : Nat) (x1 : Int32) (x2 : Int32) (σ : ZM) : z_w d_Qu_greatestChoir cl 4 [some (vr r0), some (vi x1), some (vi x2)] [] σ =
  z_g (z_kd σ r0 == 6) (z_g (z_kd σ (z_r σ r0 0) == 4) (if x2 < (z_i σ (z_r σ r0 0) 3) then
    z_g (z_kd σ r0 == 6) (z_bI (cl 270 [vr r0, vi x2] σ) (fun v2 σ1 =>
    z_bI (cl 233 [vi v2] σ1) (fun v4 σ3 =>
    z_bI (cl 48 [vi x1, vi v4] σ3) (fun v6 σ5 =>
    z_w d_Qu_greatestChoir cl 4 [some (vr r0), some (vi v6), some (vi (x2 + (1 : Int32)))] [] σ5))))
  else
    some (vi x1, σ))) := (z_w_eq _ _ _ _ _ _).trans rfl
set_option maxRecDepth 100000 in
theorem e_B_choir (d : Nat) (r0 : Nat) (σ : ZM) : z_call (d + 1) 275 [vr r0] σ =
  z_g (z_kd σ r0 == 11) (z_g (z_kd σ (z_r σ r0 13) == 6) (z_bI (z_call d 274 [vr (z_r σ r0 13)] σ) (fun v2 σ1 =>
  some (vi v2, σ1)))) := (z_w_eq _ _ _ _ _ _).trans rfl
set_option maxRecDepth 100000 in
theorem e_M_choir (d : Nat) (r0 : Nat) (σ : ZM) : z_call (d + 1) 276 [vr r0] σ =
  z_w d_M_choir (z_call d) 4 [some (vr r0), some (vi (0 : Int32)), some (vi (0 : Int32))] [] σ := (z_w_eq _ _ _ _ _ _).trans rfl
set_option maxRecDepth 100000 in
theorem e_M_choir_4 (cl : Nat → List ZV → ZM → ZR) (r0 : Nat) (x1 : Int32) (x2 : Int32) (σ : ZM) : z_w d_M_choir cl 4 [some (vr r0), some (vi x1), some (vi x2)] [] σ =
  z_g (z_kd σ r0 == 12) (z_g (z_at σ (z_r σ r0 0) 20 (1 : Int32)) (if x2 < (z_i σ (z_r σ r0 0) (1 : Int32).toNatClampNeg) then
    z_g (z_kd σ r0 == 12) (z_bI (cl 272 [vr r0, vi x2] σ) (fun v2 σ1 =>
    z_bI (cl 247 [vi v2] σ1) (fun v4 σ3 =>
    if x1 < v4 then
      z_g (z_kd σ3 r0 == 12) (z_bI (cl 272 [vr r0, vi x2] σ3) (fun v6 σ5 =>
      z_bI (cl 247 [vi v6] σ5) (fun v8 σ7 =>
      z_w d_M_choir cl 4 [some (vr r0), some (vi v8), some (vi (x2 + (1 : Int32)))] [] σ7)))
    else
      z_w d_M_choir cl 4 [some (vr r0), some (vi x1), some (vi (x2 + (1 : Int32)))] [] σ3)))
  else
    some (vi x1, σ))) := (z_w_eq _ _ _ _ _ _).trans rfl
set_option maxRecDepth 100000 in
theorem e_Ma_abs (d : Nat) (x0 : Int32) (σ : ZM) : z_call (d + 1) 277 [vi x0] σ =
  if x0 < 0 then
    some (vi (-x0), σ)
  else
    some (vi x0, σ) := (z_w_eq _ _ _ _ _ _).trans rfl
set_option maxRecDepth 100000 in
theorem e_Qu_greatestDivisor (d : Nat) (x0 : Int64) (x2 : Int64) (σ : ZM) : z_call (d + 1) 278 [vl x0, vl x2] σ =
  z_w d_Qu_greatestDivisor (z_call d) 9 [none, none, none, none, some (vl x0), none, some (vl x2), none, some (vi (0 : Int32)), none, none] [] σ := (z_w_eq _ _ _ _ _ _).trans rfl
set_option maxRecDepth 100000 in
theorem e_Qu_greatestDivisor_9 (cl : Nat → List ZV → ZM → ZR) (x4 : Int64) (x6 : Int64) (x8 : Int32) (σ : ZM) : z_w d_Qu_greatestDivisor cl 9 [none, none, none, none, some (vl x4), none, some (vl x6), none, some (vi x8), none, none] [] σ =
  if x8 < (1000 : Int32) then
    if (lg_cmp x6 (0 : Int64)) = 0 then
      if (lg_cmp x4 (0 : Int64)) = 0 then
        some (vl (1 : Int64), σ)
      else
        some (vl x4, σ)
    else
      z_g (!(x6 == 0)) (z_x (x4 - x4 / x6 * x6) (fun u1 => z_w d_Qu_greatestDivisor cl 9 [none, none, none, none, some (vl x6), none, some (vl u1), none, some (vi (x8 + (1 : Int32))), none, none] [] σ))
  else
    if (lg_cmp x4 (0 : Int64)) = 0 then
      some (vl (1 : Int64), σ)
    else
      some (vl x4, σ) := (z_w_eq _ _ _ _ _ _).trans rfl
set_option maxRecDepth 100000 in
theorem e_Qu_odds (d : Nat) (r0 : Nat) (x1 : Int32) (x2 : Int32) (x3 : Int32) (σ : ZM) : z_call (d + 1) 279 [vr r0, vi x1, vi x2, vi x3] σ =
  if x1 = x2 then
    some (vl (1 : Int64), σ)
  else
    z_g (z_kd σ r0 == 6) (z_g (z_kd σ (z_r σ r0 1) == 5) (z_g (z_at σ (z_r σ (z_r σ r0 1) 0) 20 x1) (z_x (z_i σ (z_r σ (z_r σ r0 1) 0) x1.toNatClampNeg) (fun u1 => z_g (z_kd σ r0 == 6) (z_g (z_kd σ (z_r σ r0 1) == 5) (z_g (z_at σ (z_r σ (z_r σ r0 1) 0) 20 x2) (z_x (z_i σ (z_r σ (z_r σ r0 1) 0) x2.toNatClampNeg) (fun u2 => if u1 = (-1 : Int32) then
      if x3 = 0 then
        some (vl (0 : Int64), σ)
      else
        some (vl (1 : Int64), σ)
    else
      if u2 = (-1 : Int32) then
        if x3 = 0 then
          some (vl (0 : Int64), σ)
        else
          some (vl (1 : Int64), σ)
      else
        if u1 < u2 then
          z_bI (z_call d 277 [vi (u2 - u1)] σ) (fun v6 σ5 =>
          z_w d_Qu_odds (z_call d) 84 [some (vr r0), none, none, some (vi x3), some (vi u1), none, some (vi (1 : Int32)), some (vi v6), some (vl (1 : Int64)), none, some (vl (1 : Int64)), none, some (vi (0 : Int32)), none] [] σ5)
        else
          z_bI (z_call d 277 [vi (u2 - u1)] σ) (fun v4 σ3 =>
          z_w d_Qu_odds (z_call d) 84 [some (vr r0), none, none, some (vi x3), some (vi u1), none, some (vi (-1 : Int32)), some (vi v4), some (vl (1 : Int64)), none, some (vl (1 : Int64)), none, some (vi (0 : Int32)), none] [] σ3))))))))) := (z_w_eq _ _ _ _ _ _).trans rfl
set_option maxRecDepth 100000 in
theorem e_Qu_odds_84 (cl : Nat → List ZV → ZM → ZR) (r0 : Nat) (x3 : Int32) (x4 : Int32) (x6 : Int32) (x7 : Int32) (x8 : Int64) (x10 : Int64) (x12 : Int32) (σ : ZM) : z_w d_Qu_odds cl 84 [some (vr r0), none, none, some (vi x3), some (vi x4), none, some (vi x6), some (vi x7), some (vl x8), none, some (vl x10), none, some (vi x12), none] [] σ =
  if x12 < x7 then
    z_g (z_kd σ r0 == 6) (z_g (z_kd σ (z_r σ r0 1) == 5) (z_bI (cl 120 [vr (z_r σ r0 1), vi (x4 + (x12 * x6))] σ) (fun v4 σ3 =>
    if v4 = (-1 : Int32) then
      z_x (x8 * (0 : Int64)) (fun u9 => z_x (x10 * (10 : Int64)) (fun u10 => z_w d_Qu_odds cl 84 [some (vr r0), none, none, some (vi x3), some (vi x4), none, some (vi x6), some (vi x7), some (vl u9), none, some (vl u10), none, some (vi (x12 + (1 : Int32))), none] [] σ3))
    else
      z_g (z_kd σ3 r0 == 6) (z_g (z_kd σ3 (z_r σ3 r0 3) == 1) (z_bI (cl 151 [vr (z_r σ3 r0 3), vi v4] σ3) (fun v6 σ5 =>
      z_x (x8 * v6.toInt64) (fun u7 => z_x (x10 * (10 : Int64)) (fun u8 => z_w d_Qu_odds cl 84 [some (vr r0), none, none, some (vi x3), some (vi x4), none, some (vi x6), some (vi x7), some (vl u7), none, some (vl u8), none, some (vi (x12 + (1 : Int32))), none] [] σ5))))))))
  else
    z_bL (cl 278 [vl x10, vl x8] σ) (fun v2 σ1 =>
    if x3 = 0 then
      z_g (!(v2 == 0)) (some (vl (x8 / v2), σ1))
    else
      z_g (!(v2 == 0)) (some (vl (x10 / v2), σ1))) := (z_w_eq _ _ _ _ _ _).trans rfl
set_option maxRecDepth 100000 in
theorem e_B_comes (d : Nat) (r0 : Nat) (x1 : Int32) (x2 : Int32) (x3 : Int32) (σ : ZM) : z_call (d + 1) 280 [vr r0, vi x1, vi x2, vi x3] σ =
  z_g (z_kd σ r0 == 11) (z_g (z_kd σ (z_r σ r0 0) == 4) (z_bI (z_call d 118 [vr (z_r σ r0 0), vi x1] σ) (fun v2 σ1 =>
  if v2 = 0 then
    some (vl (-1 : Int64), σ1)
  else
    z_g (z_kd σ1 r0 == 11) (z_g (z_kd σ1 (z_r σ1 r0 0) == 4) (z_bI (z_call d 118 [vr (z_r σ1 r0 0), vi x2] σ1) (fun v4 σ3 =>
    if v4 = 0 then
      some (vl (-1 : Int64), σ3)
    else
      z_g (z_kd σ3 r0 == 11) (z_g (z_kd σ3 (z_r σ3 r0 13) == 6) (z_bL (z_call d 279 [vr (z_r σ3 r0 13), vi x1, vi x2, vi x3] σ3) (fun v6 σ5 =>
      some (vl v6, σ5)))))))))) := (z_w_eq _ _ _ _ _ _).trans rfl
set_option maxRecDepth 100000 in
theorem e_M_common (d : Nat) (x0 : Int64) (x2 : Int64) (σ : ZM) : z_call (d + 1) 281 [vl x0, vl x2] σ =
  z_w d_M_common (z_call d) 6 [none, none, none, none, some (vl x0), none, some (vl x2), none, none, none] [] σ := (z_w_eq _ _ _ _ _ _).trans rfl
set_option maxRecDepth 100000 in
theorem e_M_common_6 (cl : Nat → List ZV → ZM → ZR) (x4 : Int64) (x6 : Int64) (σ : ZM) : z_w d_M_common cl 6 [none, none, none, none, some (vl x4), none, some (vl x6), none, none, none] [] σ =
  if (lg_cmp x6 (0 : Int64)) = 0 then
    some (vl x4, σ)
  else
    z_g (!(x6 == 0)) (z_x (x4 - x4 / x6 * x6) (fun u1 => z_w d_M_common cl 6 [none, none, none, none, some (vl x6), none, some (vl u1), none, none, none] [] σ)) := (z_w_eq _ _ _ _ _ _).trans rfl
set_option maxRecDepth 100000 in
theorem e_M_comes (d : Nat) (r0 : Nat) (x1 : Int32) (x2 : Int32) (x3 : Int32) (σ : ZM) : z_call (d + 1) 282 [vr r0, vi x1, vi x2, vi x3] σ =
  z_g (z_kd σ r0 == 12) (z_bI (z_call d 125 [vr r0, vi x1] σ) (fun v2 σ1 =>
  if v2 = 0 then
    some (vl (-1 : Int64), σ1)
  else
    z_g (z_kd σ1 r0 == 12) (z_bI (z_call d 125 [vr r0, vi x2] σ1) (fun v4 σ3 =>
    if v4 = 0 then
      some (vl (-1 : Int64), σ3)
    else
      if x1 = x2 then
        z_w d_M_comes (z_call d) 58 [some (vr r0), none, some (vi x2), some (vi x3), some (vl (1 : Int64)), none, some (vl (1 : Int64)), none, some (vi x1), none] [] σ3
      else
        z_g (z_kd σ3 r0 == 12) (z_bI (z_call d 126 [vr r0, vi x1, vi (3 : Int32)] σ3) (fun v6 σ5 =>
        if v6 = (-1 : Int32) then
          z_w d_M_comes (z_call d) 58 [some (vr r0), none, some (vi x2), some (vi x3), some (vl (0 : Int64)), none, some (vl (1 : Int64)), none, some (vi x1), none] [] σ5
        else
          z_g (z_kd σ5 r0 == 12) (z_bI (z_call d 126 [vr r0, vi x2, vi (3 : Int32)] σ5) (fun v8 σ7 =>
          if v8 = (-1 : Int32) then
            z_w d_M_comes (z_call d) 58 [some (vr r0), none, some (vi x2), some (vi x3), some (vl (0 : Int64)), none, some (vl (1 : Int64)), none, some (vi x1), none] [] σ7
          else
            z_w d_M_comes (z_call d) 58 [some (vr r0), none, some (vi x2), some (vi x3), some (vl (1 : Int64)), none, some (vl (1 : Int64)), none, some (vi x1), none] [] σ7)))))))) := (z_w_eq _ _ _ _ _ _).trans rfl
set_option maxRecDepth 100000 in
theorem e_M_comes_58 (cl : Nat → List ZV → ZM → ZR) (r0 : Nat) (x2 : Int32) (x3 : Int32) (x4 : Int64) (x6 : Int64) (x8 : Int32) (σ : ZM) : z_w d_M_comes cl 58 [some (vr r0), none, some (vi x2), some (vi x3), some (vl x4), none, some (vl x6), none, some (vi x8), none] [] σ =
  if x8 = x2 then
    z_w d_M_comes cl 145 [none, none, none, some (vi x3), some (vl x4), none, some (vl x6), none, none, none] [] σ
  else
    if (lg_cmp x4 (0 : Int64)) = 0 then
      z_w d_M_comes cl 145 [none, none, none, some (vi x3), some (vl x4), none, some (vl x6), none, none, none] [] σ
    else
      z_g (z_kd σ r0 == 12) (z_bI (cl 169 [vr r0, vi x8] σ) (fun v2 σ1 =>
      z_x (x4 * v2.toInt64) (fun u3 => z_x (x6 * (10 : Int64)) (fun u4 => z_g (z_kd σ1 r0 == 12) (z_bI (cl 126 [vr r0, vi x8, vi (3 : Int32)] σ1) (fun v6 σ5 =>
      z_g (z_kd σ5 r0 == 12) (z_bI (cl 126 [vr r0, vi x2, vi (3 : Int32)] σ5) (fun v8 σ7 =>
      z_g (z_kd σ7 r0 == 12) (z_bI (cl 126 [vr r0, vi x8, vi (3 : Int32)] σ7) (fun v10 σ9 =>
      if v10 < v8 then
        z_g (z_kd σ9 r0 == 12) (z_bI (cl 128 [vr r0, vi (v6 + (1 : Int32))] σ9) (fun v14 σ13 =>
        if v14 = (-1 : Int32) then
          z_w d_M_comes cl 58 [some (vr r0), none, some (vi x2), some (vi x3), some (vl (0 : Int64)), none, some (vl u4), none, some (vi x8), none] [] σ13
        else
          z_w d_M_comes cl 58 [some (vr r0), none, some (vi x2), some (vi x3), some (vl u3), none, some (vl u4), none, some (vi v14), none] [] σ13))
      else
        z_g (z_kd σ9 r0 == 12) (z_bI (cl 128 [vr r0, vi (v6 + (-1 : Int32))] σ9) (fun v12 σ11 =>
        if v12 = (-1 : Int32) then
          z_w d_M_comes cl 58 [some (vr r0), none, some (vi x2), some (vi x3), some (vl (0 : Int64)), none, some (vl u4), none, some (vi x8), none] [] σ11
        else
          z_w d_M_comes cl 58 [some (vr r0), none, some (vi x2), some (vi x3), some (vl u3), none, some (vl u4), none, some (vi v12), none] [] σ11)))))))))))) := (z_w_eq _ _ _ _ _ _).trans rfl
set_option maxRecDepth 100000 in
theorem e_M_comes_145 (cl : Nat → List ZV → ZM → ZR) (x3 : Int32) (x4 : Int64) (x6 : Int64) (σ : ZM) : z_w d_M_comes cl 145 [none, none, none, some (vi x3), some (vl x4), none, some (vl x6), none, none, none] [] σ =
  if (lg_cmp x4 (0 : Int64)) = 0 then
    if x3 = 0 then
      some (vl (0 : Int64), σ)
    else
      some (vl (1 : Int64), σ)
  else
    if x3 = 0 then
      z_bL (cl 281 [vl x4, vl x6] σ) (fun v2 σ1 =>
      z_g (!(v2 == 0)) (some (vl (x4 / v2), σ1)))
    else
      z_bL (cl 281 [vl x4, vl x6] σ) (fun v4 σ3 =>
      z_g (!(v4 == 0)) (some (vl (x6 / v4), σ3))) := (z_w_eq _ _ _ _ _ _).trans rfl
set_option maxRecDepth 100000 in
theorem e_Qu_airNeeded (d : Nat) (r0 : Nat) (x1 : Int32) (x2 : Int32) (σ : ZM) : z_call (d + 1) 283 [vr r0, vi x1, vi x2] σ =
  z_bI (z_call d 16 [vi x1, vi (1 : Int32), vi (200 : Int32)] σ) (fun v2 σ1 =>
  if v2 = 0 then
    some (vi (-100000 : Int32), σ1)
  else
    z_bI (z_call d 16 [vi x2, vi (0 : Int32), vi (3 : Int32)] σ1) (fun v4 σ3 =>
    if v4 = 0 then
      some (vi (-100000 : Int32), σ3)
    else
      z_g (z_kd σ3 r0 == 6) (z_g (z_kd σ3 r0 == 6) (z_g (z_kd σ3 (z_r σ3 r0 1) == 5) (z_g (z_kd σ3 (z_r σ3 r0 3) == 1) (z_bI (z_call d 200 [vr (z_r σ3 r0 3), vi (z_i σ3 (z_r σ3 r0 1) 3)] σ3) (fun v6 σ5 =>
      z_bI (z_call d 48 [vi v6, vi (0 : Int32)] σ5) (fun v8 σ7 =>
      z_w d_Qu_airNeeded (z_call d) 54 [some (vr r0), some (vi x1), some (vi x2), some (vi v6), some (vi v6), some (vi v8), some (vi (0 : Int32)), some (vi (1 : Int32)), none] [] σ7)))))))) := (z_w_eq _ _ _ _ _ _).trans rfl
set_option maxRecDepth 100000 in
theorem e_Qu_airNeeded_54 (cl : Nat → List ZV → ZM → ZR) (r0 : Nat) (x1 : Int32) (x2 : Int32) (x3 : Int32) (x4 : Int32) (x5 : Int32) (x6 : Int32) (x7 : Int32) (σ : ZM) : z_w d_Qu_airNeeded cl 54 [some (vr r0), some (vi x1), some (vi x2), some (vi x3), some (vi x4), some (vi x5), some (vi x6), some (vi x7), none] [] σ =
  if x7 < x1 then
    z_g (z_kd σ r0 == 6) (z_g (z_kd σ r0 == 6) (z_g (z_kd σ (z_r σ r0 1) == 5) (z_g (z_kd σ (z_r σ r0 3) == 1) (z_bI (cl 200 [vr (z_r σ r0 3), vi ((z_i σ (z_r σ r0 1) 3) + x7)] σ) (fun v2 σ1 =>
    z_bI (cl 48 [vi v2, vi (0 : Int32)] σ1) (fun v4 σ3 =>
    z_x (x5 + v4) (fun u5 => z_bI (cl 34 [vi x4, vi v2] σ3) (fun v7 σ6 =>
    if x3 < v2 then
      z_w d_Qu_airNeeded cl 54 [some (vr r0), some (vi x1), some (vi x2), some (vi v2), some (vi v7), some (vi u5), some (vi x7), some (vi (x7 + (1 : Int32))), none] [] σ6
    else
      z_w d_Qu_airNeeded cl 54 [some (vr r0), some (vi x1), some (vi x2), some (vi x3), some (vi v7), some (vi u5), some (vi x6), some (vi (x7 + (1 : Int32))), none] [] σ6))))))))
  else
    if x2 = 0 then
      some (vi x5, σ)
    else
      if x2 = (1 : Int32) then
        some (vi x3, σ)
      else
        if x2 = (2 : Int32) then
          some (vi x4, σ)
        else
          some (vi x6, σ) := (z_w_eq _ _ _ _ _ _).trans rfl
set_option maxRecDepth 100000 in
theorem e_B_needed (d : Nat) (r0 : Nat) (x1 : Int32) (x2 : Int32) (σ : ZM) : z_call (d + 1) 284 [vr r0, vi x1, vi x2] σ =
  z_g (z_kd σ r0 == 11) (z_g (z_kd σ (z_r σ r0 13) == 6) (z_bI (z_call d 283 [vr (z_r σ r0 13), vi x1, vi x2] σ) (fun v2 σ1 =>
  some (vi v2, σ1)))) := (z_w_eq _ _ _ _ _ _).trans rfl
set_option maxRecDepth 100000 in
theorem e_M_needed (d : Nat) (r0 : Nat) (x1 : Int32) (x2 : Int32) (σ : ZM) : z_call (d + 1) 285 [vr r0, vi x1, vi x2] σ =
  z_bI (z_call d 19 [vi x1, vi (1 : Int32), vi (200 : Int32)] σ) (fun v2 σ1 =>
  if v2 = 0 then
    some (vi (-100000 : Int32), σ1)
  else
    z_bI (z_call d 19 [vi x2, vi (0 : Int32), vi (3 : Int32)] σ1) (fun v4 σ3 =>
    if v4 = 0 then
      some (vi (-100000 : Int32), σ3)
    else
      z_w d_M_needed (z_call d) 42 [some (vr r0), some (vi x1), some (vi x2), some (vi (0 : Int32)), some (vi (-1000 : Int32)), some (vi (1000 : Int32)), some (vi (0 : Int32)), some (vi (0 : Int32)), none] [] σ3)) := (z_w_eq _ _ _ _ _ _).trans rfl
set_option maxRecDepth 100000 in
theorem e_M_needed_42 (cl : Nat → List ZV → ZM → ZR) (r0 : Nat) (x1 : Int32) (x2 : Int32) (x3 : Int32) (x4 : Int32) (x5 : Int32) (x6 : Int32) (x7 : Int32) (σ : ZM) : z_w d_M_needed cl 42 [some (vr r0), some (vi x1), some (vi x2), some (vi x3), some (vi x4), some (vi x5), some (vi x6), some (vi x7), none] [] σ =
  if x7 < x1 then
    z_g (z_kd σ r0 == 12) (z_g (z_at σ (z_r σ r0 0) 20 (3 : Int32)) (z_g (z_kd σ r0 == 12) (z_bI (cl 206 [vr r0, vi ((z_i σ (z_r σ r0 0) (3 : Int32).toNatClampNeg) + x7)] σ) (fun v2 σ1 =>
    if 0 < v2 then
      z_x (x3 + v2) (fun u4 => if x4 < v2 then
        z_w d_M_needed cl 91 [some (vr r0), some (vi x1), some (vi x2), some (vi u4), some (vi x4), some (vi x5), none, some (vi x7), some (vi v2)] [vi x7] σ1
      else
        z_w d_M_needed cl 91 [some (vr r0), some (vi x1), some (vi x2), some (vi u4), some (vi x4), some (vi x5), none, some (vi x7), some (vi v2)] [vi x6] σ1)
    else
      z_x (x3 + (0 : Int32)) (fun u3 => if x4 < v2 then
        z_w d_M_needed cl 91 [some (vr r0), some (vi x1), some (vi x2), some (vi u3), some (vi x4), some (vi x5), none, some (vi x7), some (vi v2)] [vi x7] σ1
      else
        z_w d_M_needed cl 91 [some (vr r0), some (vi x1), some (vi x2), some (vi u3), some (vi x4), some (vi x5), none, some (vi x7), some (vi v2)] [vi x6] σ1)))))
  else
    if x2 = 0 then
      some (vi x3, σ)
    else
      if x2 = (1 : Int32) then
        some (vi x4, σ)
      else
        if x2 = (2 : Int32) then
          some (vi x5, σ)
        else
          some (vi x6, σ) := (z_w_eq _ _ _ _ _ _).trans rfl
set_option maxRecDepth 100000 in
theorem e_M_needed_91 (cl : Nat → List ZV → ZM → ZR) (r0 : Nat) (x1 : Int32) (x2 : Int32) (x3 : Int32) (x4 : Int32) (x5 : Int32) (x7 : Int32) (x8 : Int32) (s0 : Int32) (σ : ZM) : z_w d_M_needed cl 91 [some (vr r0), some (vi x1), some (vi x2), some (vi x3), some (vi x4), some (vi x5), none, some (vi x7), some (vi x8)] [vi s0] σ =
  if x4 < x8 then
    if x8 < x5 then
      z_w d_M_needed cl 42 [some (vr r0), some (vi x1), some (vi x2), some (vi x3), some (vi x8), some (vi x8), some (vi s0), some (vi (x7 + (1 : Int32))), none] [] σ
    else
      z_w d_M_needed cl 42 [some (vr r0), some (vi x1), some (vi x2), some (vi x3), some (vi x8), some (vi x5), some (vi s0), some (vi (x7 + (1 : Int32))), none] [] σ
  else
    if x8 < x5 then
      z_w d_M_needed cl 42 [some (vr r0), some (vi x1), some (vi x2), some (vi x3), some (vi x4), some (vi x8), some (vi s0), some (vi (x7 + (1 : Int32))), none] [] σ
    else
      z_w d_M_needed cl 42 [some (vr r0), some (vi x1), some (vi x2), some (vi x3), some (vi x4), some (vi x5), some (vi s0), some (vi (x7 + (1 : Int32))), none] [] σ := (z_w_eq _ _ _ _ _ _).trans rfl
set_option maxRecDepth 100000 in
theorem e_Ga_takeSide (d : Nat) (r0 : Nat) (x1 : Int32) (x2 : Int32) (r3 : Nat) (r4 : Nat) (σ : ZM) : z_call (d + 1) 286 [vr r0, vi x1, vi x2, vr r3, vr r4] σ =
  z_g (z_at σ r3 20 (0 : Int32) && Nat.ble 10 r3) (z_x (z_ui σ r3 (0 : Int32).toNatClampNeg (0 : Int32)) (fun σ1 =>
  z_w d_Ga_takeSide (z_call d) 10 [some (vr r0), some (vi x1), some (vi x2), some (vr r3), some (vr r4), some (vi (0 : Int32)), some (vi (0 : Int32)), none, none, none] [] σ1)) := (z_w_eq _ _ _ _ _ _).trans rfl
set_option maxRecDepth 100000 in
theorem e_Ga_takeSide_10 (cl : Nat → List ZV → ZM → ZR) (r0 : Nat) (x1 : Int32) (x2 : Int32) (r3 : Nat) (r4 : Nat) (x5 : Int32) (x6 : Int32) (σ : ZM) : z_w d_Ga_takeSide cl 10 [some (vr r0), some (vi x1), some (vi x2), some (vr r3), some (vr r4), some (vi x5), some (vi x6), none, none, none] [] σ =
  z_g (z_kd σ r0 == 3) (z_g (z_kd σ (z_r σ r0 0) == 4) (if x6 < (z_i σ (z_r σ r0 0) 3) then
    if x5 < (5 : Int32) then
      z_g (z_kd σ r0 == 3) (z_g (z_kd σ (z_r σ r0 1) == 5) (z_g (z_at σ (z_r σ (z_r σ r0 1) 0) 20 x6) (z_x (z_i σ (z_r σ (z_r σ r0 1) 0) x6.toNatClampNeg) (fun u1 => if u1 = (-1 : Int32) then
        z_w d_Ga_takeSide cl 10 [some (vr r0), some (vi x1), some (vi x2), some (vr r3), some (vr r4), some (vi x5), some (vi (x6 + (1 : Int32))), none, none, none] [] σ
      else
        z_g (z_kd σ r0 == 3) (z_g (z_kd σ (z_r σ r0 0) == 4) (z_g (z_at σ (z_r σ (z_r σ r0 0) 1) 20 u1) (if (z_i σ (z_r σ (z_r σ r0 0) 1) u1.toNatClampNeg) = x1 then
          z_g (z_kd σ r0 == 3) (z_g (z_kd σ (z_r σ r0 1) == 5) (z_g (z_at σ (z_r σ (z_r σ r0 1) 1) 20 x6) (if (z_i σ (z_r σ (z_r σ r0 1) 1) x6.toNatClampNeg) = (1 : Int32) then
            z_w d_Ga_takeSide cl 10 [some (vr r0), some (vi x1), some (vi x2), some (vr r3), some (vr r4), some (vi x5), some (vi (x6 + (1 : Int32))), none, none, none] [] σ
          else
            z_g (z_kd σ r0 == 3) (z_g (z_kd σ r0 == 3) (z_g (z_kd σ (z_r σ r0 1) == 5) (z_g (z_kd σ (z_r σ r0 3) == 1) (z_bI (cl 221 [vr (z_r σ r0 3), vi x6, vi x2, vi (z_i σ (z_r σ r0 1) 2)] σ) (fun v3 σ2 =>
            z_g (z_kd σ2 r0 == 3) (z_g (z_kd σ2 (z_r σ2 r0 3) == 1) (z_bI (cl 192 [vr (z_r σ2 r0 3), vi x6, vi x2] σ2) (fun v5 σ4 =>
            z_x (v3 - v5) (fun u6 => z_g (z_at σ4 r4 20 x5 && Nat.ble 10 r4) (z_x (z_ui σ4 r4 x5.toNatClampNeg x6) (fun σ7 =>
            z_w d_Ga_takeSide cl 114 [some (vr r0), some (vi x1), some (vi x2), some (vr r3), some (vr r4), some (vi x5), some (vi x6), none, some (vi u6), some (vi (0 : Int32))] [] σ7))))))))))))))
        else
          z_w d_Ga_takeSide cl 10 [some (vr r0), some (vi x1), some (vi x2), some (vr r3), some (vr r4), some (vi x5), some (vi (x6 + (1 : Int32))), none, none, none] [] σ)))))))
    else
      some (vi x5, σ)
  else
    some (vi x5, σ))) := (z_w_eq _ _ _ _ _ _).trans rfl
set_option maxRecDepth 100000 in
theorem e_Ga_takeSide_114 (cl : Nat → List ZV → ZM → ZR) (r0 : Nat) (x1 : Int32) (x2 : Int32) (r3 : Nat) (r4 : Nat) (x5 : Int32) (x6 : Int32) (x8 : Int32) (x9 : Int32) (σ : ZM) : z_w d_Ga_takeSide cl 114 [some (vr r0), some (vi x1), some (vi x2), some (vr r3), some (vr r4), some (vi x5), some (vi x6), none, some (vi x8), some (vi x9)] [] σ =
  if x9 < ((1 : Int32) <<< (x5 &&& 31)) then
    z_g (z_at σ r3 20 x9) (z_g (z_at σ r3 20 (x9 + ((1 : Int32) <<< (x5 &&& 31))) && Nat.ble 10 r3) (z_x (z_ui σ r3 (x9 + ((1 : Int32) <<< (x5 &&& 31))).toNatClampNeg ((z_i σ r3 x9.toNatClampNeg) + x8)) (fun σ2 =>
    z_w d_Ga_takeSide cl 114 [some (vr r0), some (vi x1), some (vi x2), some (vr r3), some (vr r4), some (vi x5), some (vi x6), none, some (vi x8), some (vi (x9 + (1 : Int32)))] [] σ2)))
  else
    z_x (x5 + (1 : Int32)) (fun u1 => z_w d_Ga_takeSide cl 10 [some (vr r0), some (vi x1), some (vi x2), some (vr r3), some (vr r4), some (vi u1), some (vi (x6 + (1 : Int32))), none, none, none] [] σ) := (z_w_eq _ _ _ _ _ _).trans rfl
set_option maxRecDepth 100000 in
theorem e_Ga_firstMove (d : Nat) (r0 : Nat) (x1 : Int32) (x2 : Int32) (x3 : Int32) (x4 : Int32) (σ : ZM) : z_call (d + 1) 287 [vr r0, vi x1, vi x2, vi x3, vi x4] σ =
  z_w d_Ga_firstMove (z_call d) 3 [some (vr r0), some (vi x1), some (vi x2), some (vi x3), some (vi x4), some (vi (0 : Int32)), none] [] σ := (z_w_eq _ _ _ _ _ _).trans rfl
set_option maxRecDepth 100000 in
theorem e_Ga_firstMove_3 (cl : Nat → List ZV → ZM → ZR) (r0 : Nat) (x1 : Int32) (x2 : Int32) (x3 : Int32) (x4 : Int32) (x5 : Int32) (σ : ZM) : z_w d_Ga_firstMove cl 3 [some (vr r0), some (vi x1), some (vi x2), some (vi x3), some (vi x4), some (vi x5), none] [] σ =
  if x5 < x3 then
    z_x (x1 ||| ((1 : Int32) <<< (x5 &&& 31))) (fun u1 => if u1 = x1 then
      z_w d_Ga_firstMove cl 3 [some (vr r0), some (vi x1), some (vi x2), some (vi x3), some (vi x4), some (vi (x5 + (1 : Int32))), none] [] σ
    else
      z_g (z_kd σ r0 == 3) (z_g (z_kd σ r0 == 3) (z_g (z_at σ (z_r σ r0 10) 20 u1) (z_g (z_kd σ r0 == 3) (z_g (z_at σ (z_r σ r0 11) 20 x2) (z_g (z_kd σ (z_r σ r0 3) == 1) (z_bI (cl 240 [vr (z_r σ r0 3), vi ((x4 + (z_i σ (z_r σ r0 10) u1.toNatClampNeg)) + (z_i σ (z_r σ r0 11) x2.toNatClampNeg))] σ) (fun v3 σ2 =>
      if v3 = 0 then
        z_w d_Ga_firstMove cl 3 [some (vr r0), some (vi x1), some (vi x2), some (vi x3), some (vi x4), some (vi (x5 + (1 : Int32))), none] [] σ2
      else
        z_g (z_kd σ2 r0 == 3) (z_g (z_at σ2 (z_r σ2 r0 12) 20 u1) (z_bI (cl 137 [vi (z_i σ2 (z_r σ2 r0 12) u1.toNatClampNeg), vi x2] σ2) (fun v5 σ4 =>
        if v5 = 0 then
          some (vi x5, σ4)
        else
          z_w d_Ga_firstMove cl 3 [some (vr r0), some (vi x1), some (vi x2), some (vi x3), some (vi x4), some (vi (x5 + (1 : Int32))), none] [] σ4)))))))))))
  else
    some (vi (-1 : Int32), σ) := (z_w_eq _ _ _ _ _ _).trans rfl
set_option maxRecDepth 100000 in
theorem e_Ga_secondWins (d : Nat) (r0 : Nat) (x1 : Int32) (x2 : Int32) (x3 : Int32) (x4 : Int32) (σ : ZM) : z_call (d + 1) 288 [vr r0, vi x1, vi x2, vi x3, vi x4] σ =
  z_w d_Ga_secondWins (z_call d) 3 [some (vr r0), some (vi x1), some (vi x2), some (vi x3), some (vi x4), some (vi (0 : Int32)), none] [] σ := (z_w_eq _ _ _ _ _ _).trans rfl
set_option maxRecDepth 100000 in
theorem e_Ga_secondWins_3 (cl : Nat → List ZV → ZM → ZR) (r0 : Nat) (x1 : Int32) (x2 : Int32) (x3 : Int32) (x4 : Int32) (x5 : Int32) (σ : ZM) : z_w d_Ga_secondWins cl 3 [some (vr r0), some (vi x1), some (vi x2), some (vi x3), some (vi x4), some (vi x5), none] [] σ =
  if x5 < x3 then
    z_x (x2 ||| ((1 : Int32) <<< (x5 &&& 31))) (fun u1 => if u1 = x2 then
      z_w d_Ga_secondWins cl 3 [some (vr r0), some (vi x1), some (vi x2), some (vi x3), some (vi x4), some (vi (x5 + (1 : Int32))), none] [] σ
    else
      z_g (z_kd σ r0 == 3) (z_g (z_kd σ r0 == 3) (z_g (z_at σ (z_r σ r0 10) 20 x1) (z_g (z_kd σ r0 == 3) (z_g (z_at σ (z_r σ r0 11) 20 u1) (z_g (z_kd σ (z_r σ r0 3) == 1) (z_bI (cl 240 [vr (z_r σ r0 3), vi ((x4 + (z_i σ (z_r σ r0 10) x1.toNatClampNeg)) + (z_i σ (z_r σ r0 11) u1.toNatClampNeg))] σ) (fun v3 σ2 =>
      if v3 = 0 then
        z_w d_Ga_secondWins cl 3 [some (vr r0), some (vi x1), some (vi x2), some (vi x3), some (vi x4), some (vi (x5 + (1 : Int32))), none] [] σ2
      else
        z_g (z_kd σ2 r0 == 3) (z_g (z_at σ2 (z_r σ2 r0 12) 20 x1) (z_bI (cl 137 [vi (z_i σ2 (z_r σ2 r0 12) x1.toNatClampNeg), vi u1] σ2) (fun v5 σ4 =>
        if v5 = 0 then
          some (vi (1 : Int32), σ4)
        else
          z_w d_Ga_secondWins cl 3 [some (vr r0), some (vi x1), some (vi x2), some (vi x3), some (vi x4), some (vi (x5 + (1 : Int32))), none] [] σ4)))))))))))
  else
    some (vi (0 : Int32), σ) := (z_w_eq _ _ _ _ _ _).trans rfl
set_option maxRecDepth 100000 in
theorem e_Ga_fight (d : Nat) (r0 : Nat) (x1 : Int32) (x2 : Int32) (x3 : Int32) (x4 : Int32) (σ : ZM) : z_call (d + 1) 289 [vr r0, vi x1, vi x2, vi x3, vi x4] σ =
  z_g (z_kd σ r0 == 3) (z_g (z_kd σ (z_r σ r0 0) == 4) (z_g (z_at σ (z_r σ (z_r σ r0 0) 8) 20 x3) (z_x (z_i σ (z_r σ (z_r σ r0 0) 8) x3.toNatClampNeg) (fun u1 => z_g (z_kd σ r0 == 3) (z_g (z_kd σ (z_r σ r0 3) == 1) (z_bI (z_call d 200 [vr (z_r σ r0 3), vi u1] σ) (fun v3 σ2 =>
  z_g (z_kd σ2 r0 == 3) (z_g (z_kd σ2 (z_r σ2 r0 3) == 1) (z_bV (z_call d 238 [vr (z_r σ2 r0 3), vi x3] σ2) (fun σ4 =>
  z_g (z_kd σ4 r0 == 3) (z_g (z_kd σ4 (z_r σ4 r0 3) == 1) (z_bI (z_call d 240 [vr (z_r σ4 r0 3), vi v3] σ4) (fun v6 σ5 =>
  if v6 = 0 then
    if x4 = 0 then
      some (vi (0 : Int32), σ5)
    else
      some (vi (-1 : Int32), σ5)
  else
    z_g (z_kd σ5 r0 == 3) (z_g (z_kd σ5 r0 == 3) (z_g (z_kd σ5 r0 == 3) (z_bI (z_call d 286 [vr r0, vi x2, vi u1, vr (z_r σ5 r0 11), vr (z_r σ5 r0 9)] σ5) (fun v8 σ7 =>
    z_g (z_kd σ7 r0 == 3) (z_g (z_kd σ7 r0 == 3) (z_g (z_kd σ7 r0 == 3) (z_bI (z_call d 286 [vr r0, vi x1, vi u1, vr (z_r σ7 r0 10), vr (z_r σ7 r0 4)] σ7) (fun v10 σ9 =>
    z_x (((1 : Int32) <<< (v10 &&& 31)) - (1 : Int32)) (fun u11 => z_w d_Ga_fight (z_call d) 95 [some (vr r0), none, none, none, some (vi x4), none, some (vi v3), some (vi v8), some (vi v10), some (vi u11), none, none] [] σ9)))))))))))))))))))))) := (z_w_eq _ _ _ _ _ _).trans rfl
set_option maxRecDepth 100000 in
theorem e_Ga_fight_95 (cl : Nat → List ZV → ZM → ZR) (r0 : Nat) (x4 : Int32) (x6 : Int32) (x7 : Int32) (x8 : Int32) (x9 : Int32) (σ : ZM) : z_w d_Ga_fight cl 95 [some (vr r0), none, none, none, some (vi x4), none, some (vi x6), some (vi x7), some (vi x8), some (vi x9), none, none] [] σ =
  if x9 < 0 then
    z_g (z_kd σ r0 == 3) (z_bI (cl 287 [vr r0, vi (0 : Int32), vi (0 : Int32), vi x8, vi x6] σ) (fun v2 σ1 =>
    if x4 = 0 then
      if v2 = (-1 : Int32) then
        some (vi (0 : Int32), σ1)
      else
        some (vi (1 : Int32), σ1)
    else
      if v2 = (-1 : Int32) then
        some (vi (-1 : Int32), σ1)
      else
        z_g (z_kd σ1 r0 == 3) (z_g (z_at σ1 (z_r σ1 r0 4) 20 v2) (some (vi (z_i σ1 (z_r σ1 r0 4) v2.toNatClampNeg), σ1)))))
  else
    z_g (z_kd σ r0 == 3) (z_g (z_at σ (z_r σ r0 12) 20 x9 && Nat.ble 10 (z_r σ r0 12)) (z_x (z_ui σ (z_r σ r0 12) x9.toNatClampNeg (0 : Int32)) (fun σ3 =>
    z_x (((1 : Int32) <<< (x7 &&& 31)) - (1 : Int32)) (fun u4 => z_w d_Ga_fight cl 116 [some (vr r0), none, none, none, some (vi x4), none, some (vi x6), some (vi x7), some (vi x8), some (vi x9), some (vi u4), none] [] σ3)))) := (z_w_eq _ _ _ _ _ _).trans rfl
set_option maxRecDepth 100000 in
theorem e_Ga_fight_116 (cl : Nat → List ZV → ZM → ZR) (r0 : Nat) (x4 : Int32) (x6 : Int32) (x7 : Int32) (x8 : Int32) (x9 : Int32) (x10 : Int32) (σ : ZM) : z_w d_Ga_fight cl 116 [some (vr r0), none, none, none, some (vi x4), none, some (vi x6), some (vi x7), some (vi x8), some (vi x9), some (vi x10), none] [] σ =
  if x10 < 0 then
    z_w d_Ga_fight cl 95 [some (vr r0), none, none, none, some (vi x4), none, some (vi x6), some (vi x7), some (vi x8), some (vi (x9 + (-1 : Int32))), none, none] [] σ
  else
    z_bI (cl 233 [vi x9] σ) (fun v2 σ1 =>
    z_bI (cl 233 [vi x10] σ1) (fun v4 σ3 =>
    z_x (v2 - v4) (fun u5 => if u5 = 0 then
      z_g (z_kd σ3 r0 == 3) (z_bI (cl 287 [vr r0, vi x9, vi x10, vi x8, vi x6] σ3) (fun v11 σ10 =>
      if v11 = (-1 : Int32) then
        if u5 = (1 : Int32) then
          z_g (z_kd σ10 r0 == 3) (z_bI (cl 288 [vr r0, vi x9, vi x10, vi x7, vi x6] σ10) (fun v15 σ14 =>
          if v15 = 0 then
            z_w d_Ga_fight cl 116 [some (vr r0), none, none, none, some (vi x4), none, some (vi x6), some (vi x7), some (vi x8), some (vi x9), some (vi (x10 + (-1 : Int32))), none] [] σ14
          else
            z_g (z_kd σ14 r0 == 3) (z_x (z_r σ14 r0 12) (fun u16 => z_g (z_at σ14 u16 20 x9) (z_g (z_at σ14 u16 20 x9 && Nat.ble 10 u16) (z_x (z_ui σ14 u16 x9.toNatClampNeg ((z_i σ14 u16 x9.toNatClampNeg) ||| ((1 : Int32) <<< (x10 &&& 31)))) (fun σ17 =>
            z_w d_Ga_fight cl 116 [some (vr r0), none, none, none, some (vi x4), none, some (vi x6), some (vi x7), some (vi x8), some (vi x9), some (vi (x10 + (-1 : Int32))), none] [] σ17)))))))
        else
          z_w d_Ga_fight cl 116 [some (vr r0), none, none, none, some (vi x4), none, some (vi x6), some (vi x7), some (vi x8), some (vi x9), some (vi (x10 + (-1 : Int32))), none] [] σ10
      else
        z_g (z_kd σ10 r0 == 3) (z_x (z_r σ10 r0 12) (fun u12 => z_g (z_at σ10 u12 20 x9) (z_g (z_at σ10 u12 20 x9 && Nat.ble 10 u12) (z_x (z_ui σ10 u12 x9.toNatClampNeg ((z_i σ10 u12 x9.toNatClampNeg) ||| ((1 : Int32) <<< (x10 &&& 31)))) (fun σ13 =>
        z_w d_Ga_fight cl 116 [some (vr r0), none, none, none, some (vi x4), none, some (vi x6), some (vi x7), some (vi x8), some (vi x9), some (vi (x10 + (-1 : Int32))), none] [] σ13)))))))
    else
      if u5 = (1 : Int32) then
        z_g (z_kd σ3 r0 == 3) (z_bI (cl 288 [vr r0, vi x9, vi x10, vi x7, vi x6] σ3) (fun v7 σ6 =>
        if v7 = 0 then
          z_w d_Ga_fight cl 116 [some (vr r0), none, none, none, some (vi x4), none, some (vi x6), some (vi x7), some (vi x8), some (vi x9), some (vi (x10 + (-1 : Int32))), none] [] σ6
        else
          z_g (z_kd σ6 r0 == 3) (z_x (z_r σ6 r0 12) (fun u8 => z_g (z_at σ6 u8 20 x9) (z_g (z_at σ6 u8 20 x9 && Nat.ble 10 u8) (z_x (z_ui σ6 u8 x9.toNatClampNeg ((z_i σ6 u8 x9.toNatClampNeg) ||| ((1 : Int32) <<< (x10 &&& 31)))) (fun σ9 =>
          z_w d_Ga_fight cl 116 [some (vr r0), none, none, none, some (vi x4), none, some (vi x6), some (vi x7), some (vi x8), some (vi x9), some (vi (x10 + (-1 : Int32))), none] [] σ9)))))))
      else
        z_w d_Ga_fight cl 116 [some (vr r0), none, none, none, some (vi x4), none, some (vi x6), some (vi x7), some (vi x8), some (vi x9), some (vi (x10 + (-1 : Int32))), none] [] σ3))) := (z_w_eq _ _ _ _ _ _).trans rfl
set_option maxRecDepth 100000 in
theorem e_B_duel (d : Nat) (r0 : Nat) (x1 : Int32) (x2 : Int32) (x3 : Int32) (x4 : Int32) (σ : ZM) : z_call (d + 1) 290 [vr r0, vi x1, vi x2, vi x3, vi x4] σ =
  z_bI (z_call d 16 [vi x1, vi (0 : Int32), vi (3 : Int32)] σ) (fun v2 σ1 =>
  if v2 = 0 then
    some (vi (-2 : Int32), σ1)
  else
    z_bI (z_call d 16 [vi x2, vi (0 : Int32), vi (3 : Int32)] σ1) (fun v4 σ3 =>
    if v4 = 0 then
      some (vi (-2 : Int32), σ3)
    else
      if x1 = x2 then
        some (vi (-2 : Int32), σ3)
      else
        z_g (z_kd σ3 r0 == 11) (z_g (z_kd σ3 (z_r σ3 r0 0) == 4) (z_bI (z_call d 199 [vr (z_r σ3 r0 0), vi x3] σ3) (fun v6 σ5 =>
        if v6 = 0 then
          some (vi (-2 : Int32), σ5)
        else
          z_g (z_kd σ5 r0 == 11) (z_g (z_kd σ5 (z_r σ5 r0 14) == 3) (z_bI (z_call d 289 [vr (z_r σ5 r0 14), vi x1, vi x2, vi x3, vi x4] σ5) (fun v8 σ7 =>
          some (vi v8, σ7))))))))) := (z_w_eq _ _ _ _ _ _).trans rfl
set_option maxRecDepth 100000 in
theorem e_M_laySides (d : Nat) (r0 : Nat) (x1 : Int32) (x2 : Int32) (σ : ZM) : z_call (d + 1) 291 [vr r0, vi x1, vi x2] σ =
  z_g (z_kd σ r0 == 12) (z_x (z_ui σ r0 37 (0 : Int32)) (fun σ1 =>
  z_w d_M_laySides (z_call d) 7 [some (vr r0), some (vi x1), some (vi x2), some (vi (0 : Int32)), none, none] [] σ1)) := (z_w_eq _ _ _ _ _ _).trans rfl
set_option maxRecDepth 100000 in
theorem e_M_laySides_7 (cl : Nat → List ZV → ZM → ZR) (r0 : Nat) (x1 : Int32) (x2 : Int32) (x3 : Int32) (σ : ZM) : z_w d_M_laySides cl 7 [some (vr r0), some (vi x1), some (vi x2), some (vi x3), none, none] [] σ =
  if x3 < (2 : Int32) then
    z_w d_M_laySides cl 18 [some (vr r0), some (vi x1), some (vi x2), some (vi x3), some (vi (0 : Int32)), some (vi (0 : Int32))] [] σ
  else
    some (vi 0, σ) := (z_w_eq _ _ _ _ _ _).trans rfl
set_option maxRecDepth 100000 in
theorem e_M_laySides_18 (cl : Nat → List ZV → ZM → ZR) (r0 : Nat) (x1 : Int32) (x2 : Int32) (x3 : Int32) (x4 : Int32) (x5 : Int32) (σ : ZM) : z_w d_M_laySides cl 18 [some (vr r0), some (vi x1), some (vi x2), some (vi x3), some (vi x4), some (vi x5)] [] σ =
  z_g (z_kd σ r0 == 12) (z_g (z_at σ (z_r σ r0 0) 20 (1 : Int32)) (if x5 < (z_i σ (z_r σ r0 0) (1 : Int32).toNatClampNeg) then
    z_g (z_kd σ r0 == 12) (z_bI (cl 126 [vr r0, vi x5, vi (3 : Int32)] σ) (fun v3 σ2 =>
    if v3 = (-1 : Int32) then
      z_w d_M_laySides cl 18 [some (vr r0), some (vi x1), some (vi x2), some (vi x3), some (vi x4), some (vi (x5 + (1 : Int32)))] [] σ2
    else
      z_g (z_kd σ2 r0 == 12) (z_bI (cl 126 [vr r0, vi x5, vi (4 : Int32)] σ2) (fun v5 σ4 =>
      if v5 = (1 : Int32) then
        z_w d_M_laySides cl 18 [some (vr r0), some (vi x1), some (vi x2), some (vi x3), some (vi x4), some (vi (x5 + (1 : Int32)))] [] σ4
      else
        if x4 = (5 : Int32) then
          z_w d_M_laySides cl 18 [some (vr r0), some (vi x1), some (vi x2), some (vi x3), some (vi x4), some (vi (x5 + (1 : Int32)))] [] σ4
        else
          z_g (z_kd σ4 r0 == 12) (z_bI (cl 126 [vr r0, vi x5, vi (3 : Int32)] σ4) (fun v7 σ6 =>
          z_g (z_kd σ6 r0 == 12) (z_bI (cl 159 [vr r0, vi v7, vi (0 : Int32)] σ6) (fun v9 σ8 =>
          if x3 = 0 then
            if v9 = x1 then
              z_g (z_kd σ8 r0 == 12) (z_g (z_kd σ8 r0 == 12) (z_g (z_at σ8 (z_r σ8 r0 32) 20 (z_i σ8 r0 37) && Nat.ble 10 (z_r σ8 r0 32)) (z_x (z_ui σ8 (z_r σ8 r0 32) (z_i σ8 r0 37).toNatClampNeg x5) (fun σ13 =>
              z_g (z_kd σ13 r0 == 12) (z_g (z_kd σ13 r0 == 12) (z_x (z_ui σ13 r0 37 ((z_i σ13 r0 37) + (1 : Int32))) (fun σ14 =>
              z_x (x4 + (1 : Int32)) (fun u15 => z_w d_M_laySides cl 18 [some (vr r0), some (vi x1), some (vi x2), some (vi x3), some (vi u15), some (vi (x5 + (1 : Int32)))] [] σ14))))))))
            else
              z_w d_M_laySides cl 18 [some (vr r0), some (vi x1), some (vi x2), some (vi x3), some (vi x4), some (vi (x5 + (1 : Int32)))] [] σ8
          else
            if v9 = x2 then
              z_g (z_kd σ8 r0 == 12) (z_g (z_kd σ8 r0 == 12) (z_g (z_at σ8 (z_r σ8 r0 32) 20 (z_i σ8 r0 37) && Nat.ble 10 (z_r σ8 r0 32)) (z_x (z_ui σ8 (z_r σ8 r0 32) (z_i σ8 r0 37).toNatClampNeg x5) (fun σ10 =>
              z_g (z_kd σ10 r0 == 12) (z_g (z_kd σ10 r0 == 12) (z_x (z_ui σ10 r0 37 ((z_i σ10 r0 37) + (1 : Int32))) (fun σ11 =>
              z_x (x4 + (1 : Int32)) (fun u12 => z_w d_M_laySides cl 18 [some (vr r0), some (vi x1), some (vi x2), some (vi x3), some (vi u12), some (vi (x5 + (1 : Int32)))] [] σ11))))))))
            else
              z_w d_M_laySides cl 18 [some (vr r0), some (vi x1), some (vi x2), some (vi x3), some (vi x4), some (vi (x5 + (1 : Int32)))] [] σ8))))))))
  else
    if x3 = 0 then
      z_g (z_kd σ r0 == 12) (z_x (z_ui σ r0 36 x4) (fun σ1 =>
      z_w d_M_laySides cl 7 [some (vr r0), some (vi x1), some (vi x2), some (vi (x3 + (1 : Int32))), none, none] [] σ1))
    else
      z_w d_M_laySides cl 7 [some (vr r0), some (vi x1), some (vi x2), some (vi (x3 + (1 : Int32))), none, none] [] σ)) := (z_w_eq _ _ _ _ _ _).trans rfl
set_option maxRecDepth 100000 in
theorem e_M_findFalls (d : Nat) (r0 : Nat) (x1 : Int32) (σ : ZM) : z_call (d + 1) 292 [vr r0, vi x1] σ =
  z_w d_M_findFalls (z_call d) 2 [some (vr r0), some (vi x1), some (vi (0 : Int32)), none] [] σ := (z_w_eq _ _ _ _ _ _).trans rfl
set_option maxRecDepth 100000 in
theorem e_M_findFalls_2 (cl : Nat → List ZV → ZM → ZR) (r0 : Nat) (x1 : Int32) (x2 : Int32) (σ : ZM) : z_w d_M_findFalls cl 2 [some (vr r0), some (vi x1), some (vi x2), none] [] σ =
  z_g (z_kd σ r0 == 12) (if x2 < (z_i σ r0 37) then
    z_g (z_kd σ r0 == 12) (z_g (z_kd σ r0 == 12) (z_g (z_at σ (z_r σ r0 32) 20 x2) (z_g (z_kd σ r0 == 12) (z_bI (cl 126 [vr r0, vi (z_i σ (z_r σ r0 32) x2.toNatClampNeg), vi (4 : Int32)] σ) (fun v2 σ1 =>
    z_g (z_at σ1 (z_r σ r0 33) 20 x2 && Nat.ble 10 (z_r σ r0 33)) (z_x (z_ui σ1 (z_r σ r0 33) x2.toNatClampNeg v2) (fun σ3 =>
    z_w d_M_findFalls cl 2 [some (vr r0), some (vi x1), some (vi (x2 + (1 : Int32))), none] [] σ3)))))))
  else
    z_w d_M_findFalls cl 35 [some (vr r0), some (vi x1), some (vi (0 : Int32)), none] [] σ) := (z_w_eq _ _ _ _ _ _).trans rfl
set_option maxRecDepth 100000 in
theorem e_M_findFalls_35 (cl : Nat → List ZV → ZM → ZR) (r0 : Nat) (x1 : Int32) (x2 : Int32) (σ : ZM) : z_w d_M_findFalls cl 35 [some (vr r0), some (vi x1), some (vi x2), none] [] σ =
  z_g (z_kd σ r0 == 12) (if x2 < ((1 : Int32) <<< ((z_i σ r0 37) &&& 31)) then
    z_w d_M_findFalls cl 47 [some (vr r0), some (vi x1), some (vi x2), some (vi (0 : Int32))] [] σ
  else
    z_w d_M_findFalls cl 118 [some (vr r0), none, some (vi (0 : Int32)), none] [] σ) := (z_w_eq _ _ _ _ _ _).trans rfl
set_option maxRecDepth 100000 in
theorem e_M_findFalls_47 (cl : Nat → List ZV → ZM → ZR) (r0 : Nat) (x1 : Int32) (x2 : Int32) (x3 : Int32) (σ : ZM) : z_w d_M_findFalls cl 47 [some (vr r0), some (vi x1), some (vi x2), some (vi x3)] [] σ =
  z_g (z_kd σ r0 == 12) (if x3 < (z_i σ r0 37) then
    z_g (z_kd σ r0 == 12) (z_g (z_at σ (z_r σ r0 32) 20 x3) (z_bI (cl 88 [vi x2, vi x3] σ) (fun v6 σ5 =>
    if v6 = 0 then
      z_g (z_kd σ5 r0 == 12) (z_g (z_at σ5 (z_r σ5 r0 33) 20 x3) (z_g (z_kd σ5 r0 == 12) (z_bV (cl 23 [vr r0, vi (z_i σ (z_r σ r0 32) x3.toNatClampNeg), vi (4 : Int32), vi (z_i σ5 (z_r σ5 r0 33) x3.toNatClampNeg)] σ5) (fun σ7 =>
      z_w d_M_findFalls cl 47 [some (vr r0), some (vi x1), some (vi x2), some (vi (x3 + (1 : Int32)))] [] σ7))))
    else
      z_g (z_kd σ5 r0 == 12) (z_bV (cl 23 [vr r0, vi (z_i σ (z_r σ r0 32) x3.toNatClampNeg), vi (4 : Int32), vi (1 : Int32)] σ5) (fun σ8 =>
      z_w d_M_findFalls cl 47 [some (vr r0), some (vi x1), some (vi x2), some (vi (x3 + (1 : Int32)))] [] σ8)))))
  else
    z_g (z_kd σ r0 == 12) (z_g (z_kd σ r0 == 12) (z_bI (cl 208 [vr r0, vi x1, vi (0 : Int32)] σ) (fun v2 σ1 =>
    if v2 = 0 then
      z_g ((z_at σ1 (z_r σ r0 35) 21 x2 || z_at σ1 (z_r σ r0 35) 22 x2) && Nat.ble 10 (z_r σ r0 35)) (z_x (z_ui σ1 (z_r σ r0 35) x2.toNatClampNeg (z_bv σ1 (z_r σ r0 35) (1 : Int32))) (fun σ4 =>
      z_w d_M_findFalls cl 35 [some (vr r0), some (vi x1), some (vi (x2 + (1 : Int32))), none] [] σ4))
    else
      z_g ((z_at σ1 (z_r σ r0 35) 21 x2 || z_at σ1 (z_r σ r0 35) 22 x2) && Nat.ble 10 (z_r σ r0 35)) (z_x (z_ui σ1 (z_r σ r0 35) x2.toNatClampNeg (z_bv σ1 (z_r σ r0 35) (0 : Int32))) (fun σ3 =>
      z_w d_M_findFalls cl 35 [some (vr r0), some (vi x1), some (vi (x2 + (1 : Int32))), none] [] σ3)))))) := (z_w_eq _ _ _ _ _ _).trans rfl
set_option maxRecDepth 100000 in
theorem e_M_findFalls_118 (cl : Nat → List ZV → ZM → ZR) (r0 : Nat) (x2 : Int32) (σ : ZM) : z_w d_M_findFalls cl 118 [some (vr r0), none, some (vi x2), none] [] σ =
  z_g (z_kd σ r0 == 12) (if x2 < (z_i σ r0 37) then
    z_g (z_kd σ r0 == 12) (z_g (z_at σ (z_r σ r0 32) 20 x2) (z_g (z_kd σ r0 == 12) (z_g (z_at σ (z_r σ r0 33) 20 x2) (z_g (z_kd σ r0 == 12) (z_bV (cl 23 [vr r0, vi (z_i σ (z_r σ r0 32) x2.toNatClampNeg), vi (4 : Int32), vi (z_i σ (z_r σ r0 33) x2.toNatClampNeg)] σ) (fun σ1 =>
    z_w d_M_findFalls cl 118 [some (vr r0), none, some (vi (x2 + (1 : Int32))), none] [] σ1))))))
  else
    some (vi 0, σ)) := (z_w_eq _ _ _ _ _ _).trans rfl
set_option maxRecDepth 100000 in
theorem e_M_isGood (d : Nat) (r0 : Nat) (x1 : Int32) (x2 : Int32) (x3 : Int32) (σ : ZM) : z_call (d + 1) 293 [vr r0, vi x1, vi x2, vi x3] σ =
  z_bI (z_call d 88 [vi x1, vi x3] σ) (fun v2 σ1 =>
  if v2 = 0 then
    z_g (z_kd σ1 r0 == 12) (if x3 < (z_i σ1 r0 36) then
      if x2 = 0 then
        z_w d_M_isGood (z_call d) 30 [some (vr r0), some (vi x1), some (vi x2), some (vi x3), none] [vi (1 : Int32), vi (1 : Int32)] σ1
      else
        z_w d_M_isGood (z_call d) 30 [some (vr r0), some (vi x1), some (vi x2), some (vi x3), none] [vi (0 : Int32), vi (1 : Int32)] σ1
    else
      if x2 = 0 then
        z_w d_M_isGood (z_call d) 30 [some (vr r0), some (vi x1), some (vi x2), some (vi x3), none] [vi (1 : Int32), vi (0 : Int32)] σ1
      else
        z_w d_M_isGood (z_call d) 30 [some (vr r0), some (vi x1), some (vi x2), some (vi x3), none] [vi (0 : Int32), vi (0 : Int32)] σ1)
  else
    some (vi (0 : Int32), σ1)) := (z_w_eq _ _ _ _ _ _).trans rfl
set_option maxRecDepth 100000 in
theorem e_M_isGood_30 (cl : Nat → List ZV → ZM → ZR) (r0 : Nat) (x1 : Int32) (x2 : Int32) (x3 : Int32) (s0 : Int32) (s1 : Int32) (σ : ZM) : z_w d_M_isGood cl 30 [some (vr r0), some (vi x1), some (vi x2), some (vi x3), none] [vi s1, vi s0] σ =
  if s0 = s1 then
    z_x (x1 ||| ((1 : Int32) <<< (x3 &&& 31))) (fun u1 => z_g (z_kd σ r0 == 12) (z_g (z_at σ (z_r σ r0 35) 21 u1 || z_at σ (z_r σ r0 35) 22 u1) (if (z_i σ (z_r σ r0 35) u1.toNatClampNeg) = 0 then
      z_g (z_kd σ r0 == 12) (z_g (z_at σ (z_r σ r0 34) 21 ((((2 : Int32) * u1) + (1 : Int32)) - x2) || z_at σ (z_r σ r0 34) 22 ((((2 : Int32) * u1) + (1 : Int32)) - x2)) (if (z_i σ (z_r σ r0 34) ((((2 : Int32) * u1) + (1 : Int32)) - x2).toNatClampNeg) = 0 then
        some (vi (1 : Int32), σ)
      else
        some (vi (0 : Int32), σ)))
    else
      some (vi (0 : Int32), σ))))
  else
    some (vi (0 : Int32), σ) := (z_w_eq _ _ _ _ _ _).trans rfl
set_option maxRecDepth 100000 in
theorem e_M_duel (d : Nat) (r0 : Nat) (x1 : Int32) (x2 : Int32) (x3 : Int32) (x4 : Int32) (σ : ZM) : z_call (d + 1) 294 [vr r0, vi x1, vi x2, vi x3, vi x4] σ =
  z_bI (z_call d 19 [vi x1, vi (0 : Int32), vi (3 : Int32)] σ) (fun v2 σ1 =>
  if v2 = 0 then
    some (vi (-2 : Int32), σ1)
  else
    z_bI (z_call d 19 [vi x2, vi (0 : Int32), vi (3 : Int32)] σ1) (fun v4 σ3 =>
    if v4 = 0 then
      some (vi (-2 : Int32), σ3)
    else
      if x1 = x2 then
        some (vi (-2 : Int32), σ3)
      else
        z_g (z_kd σ3 r0 == 12) (z_bI (z_call d 205 [vr r0, vi x3] σ3) (fun v6 σ5 =>
        if v6 = 0 then
          some (vi (-2 : Int32), σ5)
        else
          z_g (z_kd σ5 r0 == 12) (z_bV (z_call d 291 [vr r0, vi x1, vi x2] σ5) (fun σ7 =>
          z_g (z_kd σ7 r0 == 12) (z_bV (z_call d 292 [vr r0, vi x3] σ7) (fun σ8 =>
          z_g (z_kd σ8 r0 == 12) (z_x (((1 : Int32) <<< ((z_i σ8 r0 37) &&& 31)) - (1 : Int32)) (fun u9 => z_w d_M_duel (z_call d) 55 [some (vr r0), none, none, none, some (vi x4), some (vi u9), none, none] [] σ8)))))))))) := (z_w_eq _ _ _ _ _ _).trans rfl
set_option maxRecDepth 100000 in
theorem e_M_duel_55 (cl : Nat → List ZV → ZM → ZR) (r0 : Nat) (x4 : Int32) (x5 : Int32) (σ : ZM) : z_w d_M_duel cl 55 [some (vr r0), none, none, none, some (vi x4), some (vi x5), none, none] [] σ =
  if x5 < 0 then
    z_g (z_kd σ r0 == 12) (z_g (z_at σ (z_r σ r0 34) 21 (0 : Int32) || z_at σ (z_r σ r0 34) 22 (0 : Int32)) (if (z_i σ (z_r σ r0 34) (0 : Int32).toNatClampNeg) = 0 then
      if x4 = 0 then
        if (0 : Int32) = 0 then
          some (vi (0 : Int32), σ)
        else
          some (vi (1 : Int32), σ)
      else
        if (0 : Int32) = 0 then
          some (vi (-1 : Int32), σ)
        else
          z_w d_M_duel cl 189 [some (vr r0), none, none, none, none, none, some (vi (0 : Int32)), none] [] σ
    else
      z_g (z_kd σ r0 == 12) (z_g (z_at σ (z_r σ r0 35) 21 (0 : Int32) || z_at σ (z_r σ r0 35) 22 (0 : Int32)) (if (z_i σ (z_r σ r0 35) (0 : Int32).toNatClampNeg) = 0 then
        if x4 = 0 then
          if (1 : Int32) = 0 then
            some (vi (0 : Int32), σ)
          else
            some (vi (1 : Int32), σ)
        else
          if (1 : Int32) = 0 then
            some (vi (-1 : Int32), σ)
          else
            z_w d_M_duel cl 189 [some (vr r0), none, none, none, none, none, some (vi (0 : Int32)), none] [] σ
      else
        if x4 = 0 then
          if (0 : Int32) = 0 then
            some (vi (0 : Int32), σ)
          else
            some (vi (1 : Int32), σ)
        else
          if (0 : Int32) = 0 then
            some (vi (-1 : Int32), σ)
          else
            z_w d_M_duel cl 189 [some (vr r0), none, none, none, none, none, some (vi (0 : Int32)), none] [] σ))))
  else
    z_w d_M_duel cl 63 [some (vr r0), none, none, none, some (vi x4), some (vi x5), some (vi (0 : Int32)), none] [] σ := (z_w_eq _ _ _ _ _ _).trans rfl
set_option maxRecDepth 100000 in
theorem e_M_duel_63 (cl : Nat → List ZV → ZM → ZR) (r0 : Nat) (x4 : Int32) (x5 : Int32) (x6 : Int32) (σ : ZM) : z_w d_M_duel cl 63 [some (vr r0), none, none, none, some (vi x4), some (vi x5), some (vi x6), none] [] σ =
  if x6 < (2 : Int32) then
    z_g (z_kd σ r0 == 12) (z_g ((z_at σ (z_r σ r0 34) 21 (((2 : Int32) * x5) + x6) || z_at σ (z_r σ r0 34) 22 (((2 : Int32) * x5) + x6)) && Nat.ble 10 (z_r σ r0 34)) (z_x (z_ui σ (z_r σ r0 34) (((2 : Int32) * x5) + x6).toNatClampNeg (z_bv σ (z_r σ r0 34) (0 : Int32))) (fun σ1 =>
    z_w d_M_duel cl 85 [some (vr r0), none, none, none, some (vi x4), some (vi x5), some (vi x6), some (vi (0 : Int32))] [] σ1)))
  else
    z_w d_M_duel cl 55 [some (vr r0), none, none, none, some (vi x4), some (vi (x5 + (-1 : Int32))), none, none] [] σ := (z_w_eq _ _ _ _ _ _).trans rfl
set_option maxRecDepth 100000 in
theorem e_M_duel_85 (cl : Nat → List ZV → ZM → ZR) (r0 : Nat) (x4 : Int32) (x5 : Int32) (x6 : Int32) (x7 : Int32) (σ : ZM) : z_w d_M_duel cl 85 [some (vr r0), none, none, none, some (vi x4), some (vi x5), some (vi x6), some (vi x7)] [] σ =
  z_g (z_kd σ r0 == 12) (if x7 < (z_i σ r0 37) then
    z_g (z_kd σ r0 == 12) (z_bI (cl 293 [vr r0, vi x5, vi x6, vi x7] σ) (fun v2 σ1 =>
    if v2 = 0 then
      z_w d_M_duel cl 85 [some (vr r0), none, none, none, some (vi x4), some (vi x5), some (vi x6), some (vi (x7 + (1 : Int32)))] [] σ1
    else
      z_g (z_kd σ1 r0 == 12) (z_g ((z_at σ1 (z_r σ1 r0 34) 21 (((2 : Int32) * x5) + x6) || z_at σ1 (z_r σ1 r0 34) 22 (((2 : Int32) * x5) + x6)) && Nat.ble 10 (z_r σ1 r0 34)) (z_x (z_ui σ1 (z_r σ1 r0 34) (((2 : Int32) * x5) + x6).toNatClampNeg (z_bv σ1 (z_r σ1 r0 34) (1 : Int32))) (fun σ3 =>
      z_w d_M_duel cl 85 [some (vr r0), none, none, none, some (vi x4), some (vi x5), some (vi x6), some (vi (x7 + (1 : Int32)))] [] σ3)))))
  else
    z_w d_M_duel cl 63 [some (vr r0), none, none, none, some (vi x4), some (vi x5), some (vi (x6 + (1 : Int32))), none] [] σ) := (z_w_eq _ _ _ _ _ _).trans rfl
set_option maxRecDepth 100000 in
theorem e_M_duel_189 (cl : Nat → List ZV → ZM → ZR) (r0 : Nat) (x6 : Int32) (σ : ZM) : z_w d_M_duel cl 189 [some (vr r0), none, none, none, none, none, some (vi x6), none] [] σ =
  z_g (z_kd σ r0 == 12) (z_bI (cl 293 [vr r0, vi (0 : Int32), vi (0 : Int32), vi x6] σ) (fun v2 σ1 =>
  if v2 = 0 then
    z_w d_M_duel cl 189 [some (vr r0), none, none, none, none, none, some (vi (x6 + (1 : Int32))), none] [] σ1
  else
    z_g (z_kd σ1 r0 == 12) (z_g (z_at σ1 (z_r σ1 r0 32) 20 x6) (some (vi (z_i σ1 (z_r σ1 r0 32) x6.toNatClampNeg), σ1))))) := (z_w_eq _ _ _ _ _ _).trans rfl
set_option maxRecDepth 100000 in
theorem e_To_addBeside (d : Nat) (r0 : Nat) (x1 : Int32) (x2 : Int32) (σ : ZM) : z_call (d + 1) 295 [vr r0, vi x1, vi x2] σ =
  z_g (z_kd σ r0 == 10) (if (z_i σ r0 0) < (8 : Int32) then
    z_g (z_kd σ r0 == 10) (z_g (z_kd σ r0 == 10) (z_g (z_at σ (z_r σ r0 1) 20 (z_i σ r0 0) && Nat.ble 10 (z_r σ r0 1)) (z_x (z_ui σ (z_r σ r0 1) (z_i σ r0 0).toNatClampNeg x1) (fun σ1 =>
    z_g (z_kd σ1 r0 == 10) (z_g (z_kd σ1 r0 == 10) (z_g (z_at σ1 (z_r σ1 r0 2) 20 (z_i σ1 r0 0) && Nat.ble 10 (z_r σ1 r0 2)) (z_x (z_ui σ1 (z_r σ1 r0 2) (z_i σ1 r0 0).toNatClampNeg x2) (fun σ2 =>
    z_g (z_kd σ2 r0 == 10) (z_g (z_kd σ2 r0 == 10) (z_x (z_ui σ2 r0 0 ((z_i σ2 r0 0) + (1 : Int32))) (fun σ3 =>
    z_g (z_kd σ3 r0 == 10) (some (vi (z_i σ3 r0 0), σ3)))))))))))))
  else
    some (vi (-2 : Int32), σ)) := (z_w_eq _ _ _ _ _ _).trans rfl
set_option maxRecDepth 100000 in
theorem e_B_beside (d : Nat) (r0 : Nat) (x1 : Int32) (x2 : Int32) (σ : ZM) : z_call (d + 1) 296 [vr r0, vi x1, vi x2] σ =
  if x1 = (-1 : Int32) then
    z_g (z_kd σ r0 == 11) (z_g (z_kd σ (z_r σ r0 3) == 10) (z_x (z_ui σ (z_r σ r0 3) 0 (0 : Int32)) (fun σ7 =>
    some (vi (0 : Int32), σ7))))
  else
    z_g (z_kd σ r0 == 11) (z_g (z_kd σ (z_r σ r0 0) == 4) (z_bI (z_call d 118 [vr (z_r σ r0 0), vi x1] σ) (fun v2 σ1 =>
    if v2 = 0 then
      some (vi (-2 : Int32), σ1)
    else
      z_g (z_kd σ1 r0 == 11) (z_g (z_kd σ1 (z_r σ1 r0 0) == 4) (z_bI (z_call d 118 [vr (z_r σ1 r0 0), vi x2] σ1) (fun v4 σ3 =>
      if v4 = 0 then
        some (vi (-2 : Int32), σ3)
      else
        if x1 = x2 then
          some (vi (-2 : Int32), σ3)
        else
          z_g (z_kd σ3 r0 == 11) (z_g (z_kd σ3 (z_r σ3 r0 3) == 10) (z_bI (z_call d 295 [vr (z_r σ3 r0 3), vi x1, vi x2] σ3) (fun v6 σ5 =>
          some (vi v6, σ5)))))))))) := (z_w_eq _ _ _ _ _ _).trans rfl
set_option maxRecDepth 100000 in
theorem e_M_beside (d : Nat) (r0 : Nat) (x1 : Int32) (x2 : Int32) (σ : ZM) : z_call (d + 1) 297 [vr r0, vi x1, vi x2] σ =
  if x1 = (-1 : Int32) then
    z_g (z_kd σ r0 == 12) (z_g (z_at σ (z_r σ r0 0) 20 (9 : Int32) && Nat.ble 10 (z_r σ r0 0)) (z_x (z_ui σ (z_r σ r0 0) (9 : Int32).toNatClampNeg (0 : Int32)) (fun σ9 =>
    some (vi (0 : Int32), σ9))))
  else
    z_g (z_kd σ r0 == 12) (z_bI (z_call d 125 [vr r0, vi x1] σ) (fun v2 σ1 =>
    if v2 = 0 then
      some (vi (-2 : Int32), σ1)
    else
      z_g (z_kd σ1 r0 == 12) (z_bI (z_call d 125 [vr r0, vi x2] σ1) (fun v4 σ3 =>
      if v4 = 0 then
        some (vi (-2 : Int32), σ3)
      else
        if x1 = x2 then
          some (vi (-2 : Int32), σ3)
        else
          z_g (z_kd σ3 r0 == 12) (z_g (z_at σ3 (z_r σ3 r0 0) 20 (9 : Int32)) (if (z_i σ3 (z_r σ3 r0 0) (9 : Int32).toNatClampNeg) = (8 : Int32) then
            some (vi (-2 : Int32), σ3)
          else
            z_g (z_kd σ3 r0 == 12) (z_g (z_kd σ3 r0 == 12) (z_g (z_at σ3 (z_r σ3 r0 0) 20 (9 : Int32)) (z_g (z_at σ3 (z_r σ3 r0 0) 20 ((146 : Int32) + ((2 : Int32) * (z_i σ3 (z_r σ3 r0 0) (9 : Int32).toNatClampNeg))) && Nat.ble 10 (z_r σ3 r0 0)) (z_x (z_ui σ3 (z_r σ3 r0 0) ((146 : Int32) + ((2 : Int32) * (z_i σ3 (z_r σ3 r0 0) (9 : Int32).toNatClampNeg))).toNatClampNeg x1) (fun σ5 =>
            z_g (z_kd σ5 r0 == 12) (z_g (z_kd σ5 r0 == 12) (z_g (z_at σ5 (z_r σ5 r0 0) 20 (9 : Int32)) (z_g (z_at σ5 (z_r σ5 r0 0) 20 (((146 : Int32) + ((2 : Int32) * (z_i σ5 (z_r σ5 r0 0) (9 : Int32).toNatClampNeg))) + (1 : Int32)) && Nat.ble 10 (z_r σ5 r0 0)) (z_x (z_ui σ5 (z_r σ5 r0 0) (((146 : Int32) + ((2 : Int32) * (z_i σ5 (z_r σ5 r0 0) (9 : Int32).toNatClampNeg))) + (1 : Int32)).toNatClampNeg x2) (fun σ6 =>
            z_g (z_kd σ6 r0 == 12) (z_x (z_r σ6 r0 0) (fun u7 => z_g (z_at σ6 u7 20 (9 : Int32)) (z_g (z_at σ6 u7 20 (9 : Int32) && Nat.ble 10 u7) (z_x (z_ui σ6 u7 (9 : Int32).toNatClampNeg ((z_i σ6 u7 (9 : Int32).toNatClampNeg) + (1 : Int32))) (fun σ8 =>
            z_g (z_kd σ8 r0 == 12) (z_g (z_at σ8 (z_r σ8 r0 0) 20 (9 : Int32)) (some (vi (z_i σ8 (z_r σ8 r0 0) (9 : Int32).toNatClampNeg), σ8)))))))))))))))))))))))) := (z_w_eq _ _ _ _ _ _).trans rfl
set_option maxRecDepth 100000 in
theorem e_Ga_isAsTold (d : Nat) (r0 : Nat) (x1 : Int32) (σ : ZM) : z_call (d + 1) 298 [vr r0, vi x1] σ =
  z_w d_Ga_isAsTold (z_call d) 2 [some (vr r0), some (vi x1), some (vi (0 : Int32)), none, none] [] σ := (z_w_eq _ _ _ _ _ _).trans rfl
set_option maxRecDepth 100000 in
theorem e_Ga_isAsTold_2 (cl : Nat → List ZV → ZM → ZR) (r0 : Nat) (x1 : Int32) (x2 : Int32) (σ : ZM) : z_w d_Ga_isAsTold cl 2 [some (vr r0), some (vi x1), some (vi x2), none, none] [] σ =
  z_g (z_kd σ r0 == 3) (z_g (z_kd σ (z_r σ r0 2) == 10) (if x2 < (z_i σ (z_r σ r0 2) 0) then
    z_g (z_kd σ r0 == 3) (z_g (z_kd σ r0 == 3) (z_g (z_kd σ (z_r σ r0 2) == 10) (z_g (z_at σ (z_r σ (z_r σ r0 2) 1) 20 x2) (z_bI (cl 236 [vr (z_r σ r0 4), vi x1, vi (z_i σ (z_r σ (z_r σ r0 2) 1) x2.toNatClampNeg)] σ) (fun v2 σ1 =>
    z_g (z_kd σ1 r0 == 3) (z_g (z_kd σ1 r0 == 3) (z_g (z_kd σ1 (z_r σ1 r0 2) == 10) (z_g (z_at σ1 (z_r σ1 (z_r σ1 r0 2) 2) 20 x2) (z_bI (cl 236 [vr (z_r σ1 r0 4), vi x1, vi (z_i σ1 (z_r σ1 (z_r σ1 r0 2) 2) x2.toNatClampNeg)] σ1) (fun v4 σ3 =>
    if v2 = (-1 : Int32) then
      z_w d_Ga_isAsTold cl 2 [some (vr r0), some (vi x1), some (vi (x2 + (1 : Int32))), none, none] [] σ3
    else
      if v4 = (-1 : Int32) then
        z_w d_Ga_isAsTold cl 2 [some (vr r0), some (vi x1), some (vi (x2 + (1 : Int32))), none, none] [] σ3
      else
        z_g (z_kd σ3 r0 == 3) (z_g (z_at σ3 (z_r σ3 r0 6) 20 v2) (z_g (z_kd σ3 r0 == 3) (z_g (z_at σ3 (z_r σ3 r0 6) 20 v4) (z_bI (cl 277 [vi ((z_i σ3 (z_r σ3 r0 6) v2.toNatClampNeg) - (z_i σ3 (z_r σ3 r0 6) v4.toNatClampNeg))] σ3) (fun v6 σ5 =>
        if v6 = (1 : Int32) then
          z_w d_Ga_isAsTold cl 2 [some (vr r0), some (vi x1), some (vi (x2 + (1 : Int32))), none, none] [] σ5
        else
          some (vi (0 : Int32), σ5))))))))))))))))
  else
    some (vi (1 : Int32), σ))) := (z_w_eq _ _ _ _ _ _).trans rfl
set_option maxRecDepth 100000 in
theorem e_Ga_seatings (d : Nat) (r0 : Nat) (x1 : Int32) (x2 : Int32) (x3 : Int32) (σ : ZM) : z_call (d + 1) 299 [vr r0, vi x1, vi x2, vi x3] σ =
  z_g (z_kd σ r0 == 3) (z_g (z_kd σ r0 == 3) (z_g (z_kd σ (z_r σ r0 0) == 4) (z_g (z_kd σ (z_r σ r0 0) == 4) (z_bI (z_call d 234 [vr (z_r σ r0 0), vi x1, vi (z_i σ (z_r σ r0 0) 3)] σ) (fun v2 σ1 =>
  if v2 = 0 then
    some (vi (-1 : Int32), σ1)
  else
    z_g (z_kd σ1 r0 == 3) (z_bI (z_call d 235 [vi x1, vr (z_r σ1 r0 4)] σ1) (fun v4 σ3 =>
    z_g (z_kd σ3 r0 == 3) (z_bI (z_call d 236 [vr (z_r σ3 r0 4), vi v4, vi x2] σ3) (fun v6 σ5 =>
    if x2 = (-1 : Int32) then
      z_g (z_kd σ5 r0 == 3) (z_bV (z_call d 239 [vr r0, vi v4] σ5) (fun σ7 =>
      z_w d_Ga_seatings (z_call d) 80 [some (vr r0), none, none, some (vi x3), some (vi v4), some (vi v6), some (vi (0 : Int32)), some (vi (1 : Int32)), some (vi (0 : Int32))] [] σ7))
    else
      if v6 = (-1 : Int32) then
        some (vi (-1 : Int32), σ5)
      else
        if x3 < 0 then
          some (vi (-1 : Int32), σ5)
        else
          if x3 < v4 then
            z_g (z_kd σ5 r0 == 3) (z_bV (z_call d 239 [vr r0, vi v4] σ5) (fun σ8 =>
            z_w d_Ga_seatings (z_call d) 80 [some (vr r0), none, none, some (vi x3), some (vi v4), some (vi v6), some (vi (0 : Int32)), some (vi (1 : Int32)), some (vi (0 : Int32))] [] σ8))
          else
            some (vi (-1 : Int32), σ5)))))))))) := (z_w_eq _ _ _ _ _ _).trans rfl
set_option maxRecDepth 100000 in
theorem e_Ga_seatings_80 (cl : Nat → List ZV → ZM → ZR) (r0 : Nat) (x3 : Int32) (x4 : Int32) (x5 : Int32) (x6 : Int32) (x7 : Int32) (x8 : Int32) (σ : ZM) : z_w d_Ga_seatings cl 80 [some (vr r0), none, none, some (vi x3), some (vi x4), some (vi x5), some (vi x6), some (vi x7), some (vi x8)] [] σ =
  if x8 < (120 : Int32) then
    if x7 = 0 then
      some (vi x6, σ)
    else
      if x5 = (-1 : Int32) then
        z_g (z_kd σ r0 == 3) (z_bI (cl 298 [vr r0, vi x4] σ) (fun v2 σ1 =>
        if v2 = 0 then
          z_g (z_kd σ1 r0 == 3) (z_bI (cl 242 [vr r0, vi x4] σ1) (fun v4 σ3 =>
          z_w d_Ga_seatings cl 80 [some (vr r0), none, none, some (vi x3), some (vi x4), some (vi x5), some (vi x6), some (vi v4), some (vi (x8 + (1 : Int32)))] [] σ3))
        else
          z_x (x6 + (1 : Int32)) (fun u5 => z_g (z_kd σ1 r0 == 3) (z_bI (cl 242 [vr r0, vi x4] σ1) (fun v7 σ6 =>
          z_w d_Ga_seatings cl 80 [some (vr r0), none, none, some (vi x3), some (vi x4), some (vi x5), some (vi u5), some (vi v7), some (vi (x8 + (1 : Int32)))] [] σ6)))))
      else
        z_g (z_kd σ r0 == 3) (z_g (z_at σ (z_r σ r0 6) 20 x5) (if (z_i σ (z_r σ r0 6) x5.toNatClampNeg) = x3 then
          z_g (z_kd σ r0 == 3) (z_bI (cl 298 [vr r0, vi x4] σ) (fun v11 σ10 =>
          if v11 = 0 then
            z_g (z_kd σ10 r0 == 3) (z_bI (cl 242 [vr r0, vi x4] σ10) (fun v13 σ12 =>
            z_w d_Ga_seatings cl 80 [some (vr r0), none, none, some (vi x3), some (vi x4), some (vi x5), some (vi x6), some (vi v13), some (vi (x8 + (1 : Int32)))] [] σ12))
          else
            z_x (x6 + (1 : Int32)) (fun u14 => z_g (z_kd σ10 r0 == 3) (z_bI (cl 242 [vr r0, vi x4] σ10) (fun v16 σ15 =>
            z_w d_Ga_seatings cl 80 [some (vr r0), none, none, some (vi x3), some (vi x4), some (vi x5), some (vi u14), some (vi v16), some (vi (x8 + (1 : Int32)))] [] σ15)))))
        else
          z_g (z_kd σ r0 == 3) (z_bI (cl 242 [vr r0, vi x4] σ) (fun v9 σ8 =>
          z_w d_Ga_seatings cl 80 [some (vr r0), none, none, some (vi x3), some (vi x4), some (vi x5), some (vi x6), some (vi v9), some (vi (x8 + (1 : Int32)))] [] σ8))))
  else
    some (vi x6, σ) := (z_w_eq _ _ _ _ _ _).trans rfl
set_option maxRecDepth 100000 in
theorem e_B_chairs (d : Nat) (r0 : Nat) (x1 : Int32) (x2 : Int32) (x3 : Int32) (σ : ZM) : z_call (d + 1) 300 [vr r0, vi x1, vi x2, vi x3] σ =
  z_g (z_kd σ r0 == 11) (z_g (z_kd σ (z_r σ r0 14) == 3) (z_bI (z_call d 299 [vr (z_r σ r0 14), vi x1, vi x2, vi x3] σ) (fun v2 σ1 =>
  some (vi v2, σ1)))) := (z_w_eq _ _ _ _ _ _).trans rfl
set_option maxRecDepth 100000 in
theorem e_M_nthOf (d : Nat) (r0 : Nat) (x1 : Int32) (σ : ZM) : z_call (d + 1) 301 [vr r0, vi x1] σ =
  z_w d_M_nthOf (z_call d) 2 [some (vr r0), some (vi x1), some (vi (0 : Int32))] [] σ := (z_w_eq _ _ _ _ _ _).trans rfl
set_option maxRecDepth 100000 in
theorem e_M_nthOf_2 (cl : Nat → List ZV → ZM → ZR) (r0 : Nat) (x1 : Int32) (x2 : Int32) (σ : ZM) : z_w d_M_nthOf cl 2 [some (vr r0), some (vi x1), some (vi x2)] [] σ =
  z_g (z_kd σ r0 == 12) (if x2 < (z_i σ r0 31) then
    z_g (z_kd σ r0 == 12) (z_g (z_at σ (z_r σ r0 26) 20 x2) (if (z_i σ (z_r σ r0 26) x2.toNatClampNeg) = x1 then
      some (vi x2, σ)
    else
      z_w d_M_nthOf cl 2 [some (vr r0), some (vi x1), some (vi (x2 + (1 : Int32)))] [] σ))
  else
    some (vi (-1 : Int32), σ)) := (z_w_eq _ _ _ _ _ _).trans rfl
set_option maxRecDepth 100000 in
theorem e_M_isAsTold (d : Nat) (r0 : Nat) (σ : ZM) : z_call (d + 1) 302 [vr r0] σ =
  z_w d_M_isAsTold (z_call d) 2 [some (vr r0), some (vi (0 : Int32)), none, none] [] σ := (z_w_eq _ _ _ _ _ _).trans rfl
set_option maxRecDepth 100000 in
theorem e_M_isAsTold_2 (cl : Nat → List ZV → ZM → ZR) (r0 : Nat) (x1 : Int32) (σ : ZM) : z_w d_M_isAsTold cl 2 [some (vr r0), some (vi x1), none, none] [] σ =
  z_g (z_kd σ r0 == 12) (z_g (z_at σ (z_r σ r0 0) 20 (9 : Int32)) (if x1 < (z_i σ (z_r σ r0 0) (9 : Int32).toNatClampNeg) then
    z_g (z_kd σ r0 == 12) (z_g (z_at σ (z_r σ r0 0) 20 ((146 : Int32) + ((2 : Int32) * x1))) (z_g (z_kd σ r0 == 12) (z_bI (cl 301 [vr r0, vi (z_i σ (z_r σ r0 0) ((146 : Int32) + ((2 : Int32) * x1)).toNatClampNeg)] σ) (fun v2 σ1 =>
    z_g (z_kd σ1 r0 == 12) (z_g (z_at σ1 (z_r σ1 r0 0) 20 (((146 : Int32) + ((2 : Int32) * x1)) + (1 : Int32))) (z_g (z_kd σ1 r0 == 12) (z_bI (cl 301 [vr r0, vi (z_i σ1 (z_r σ1 r0 0) (((146 : Int32) + ((2 : Int32) * x1)) + (1 : Int32)).toNatClampNeg)] σ1) (fun v4 σ3 =>
    if v2 = (-1 : Int32) then
      z_w d_M_isAsTold cl 2 [some (vr r0), some (vi (x1 + (1 : Int32))), none, none] [] σ3
    else
      if v4 = (-1 : Int32) then
        z_w d_M_isAsTold cl 2 [some (vr r0), some (vi (x1 + (1 : Int32))), none, none] [] σ3
      else
        z_g (z_kd σ3 r0 == 12) (z_g (z_at σ3 (z_r σ3 r0 28) 20 v2) (z_g (z_kd σ3 r0 == 12) (z_g (z_at σ3 (z_r σ3 r0 28) 20 v4) (if ((z_i σ3 (z_r σ3 r0 28) v2.toNatClampNeg) - (z_i σ3 (z_r σ3 r0 28) v4.toNatClampNeg)) = (1 : Int32) then
          z_w d_M_isAsTold cl 2 [some (vr r0), some (vi (x1 + (1 : Int32))), none, none] [] σ3
        else
          z_g (z_kd σ3 r0 == 12) (z_g (z_at σ3 (z_r σ3 r0 28) 20 v4) (z_g (z_kd σ3 r0 == 12) (z_g (z_at σ3 (z_r σ3 r0 28) 20 v2) (if ((z_i σ3 (z_r σ3 r0 28) v4.toNatClampNeg) - (z_i σ3 (z_r σ3 r0 28) v2.toNatClampNeg)) = (1 : Int32) then
            z_w d_M_isAsTold cl 2 [some (vr r0), some (vi (x1 + (1 : Int32))), none, none] [] σ3
          else
            some (vi (0 : Int32), σ3)))))))))))))))))
  else
    some (vi (1 : Int32), σ))) := (z_w_eq _ _ _ _ _ _).trans rfl
set_option maxRecDepth 100000 in
theorem e_M_chairs (d : Nat) (r0 : Nat) (x1 : Int32) (x2 : Int32) (x3 : Int32) (σ : ZM) : z_call (d + 1) 303 [vr r0, vi x1, vi x2, vi x3] σ =
  z_g (z_kd σ r0 == 12) (z_bI (z_call d 248 [vr r0, vi x1] σ) (fun v2 σ1 =>
  if v2 = 0 then
    some (vi (-1 : Int32), σ1)
  else
    z_g (z_kd σ1 r0 == 12) (z_bI (z_call d 249 [vi x1, vr (z_r σ1 r0 26)] σ1) (fun v4 σ3 =>
    z_g (z_kd σ3 r0 == 12) (z_x (z_ui σ3 r0 31 v4) (fun σ5 =>
    if x2 = (-1 : Int32) then
      if x2 = (-1 : Int32) then
        z_w d_M_chairs (z_call d) 68 [some (vr r0), none, none, some (vi x3), some (vi (-1 : Int32)), some (vi (0 : Int32)), none] [] σ5
      else
        if (-1 : Int32) = (-1 : Int32) then
          some (vi (-1 : Int32), σ5)
        else
          z_g (z_kd σ5 r0 == 12) (z_bI (z_call d 19 [vi x3, vi (0 : Int32), vi ((z_i σ5 r0 31) - (1 : Int32))] σ5) (fun v11 σ10 =>
          if v11 = 0 then
            some (vi (-1 : Int32), σ10)
          else
            z_w d_M_chairs (z_call d) 68 [some (vr r0), none, none, some (vi x3), some (vi (-1 : Int32)), some (vi (0 : Int32)), none] [] σ10))
    else
      z_g (z_kd σ5 r0 == 12) (z_bI (z_call d 301 [vr r0, vi x2] σ5) (fun v7 σ6 =>
      if x2 = (-1 : Int32) then
        z_w d_M_chairs (z_call d) 68 [some (vr r0), none, none, some (vi x3), some (vi v7), some (vi (0 : Int32)), none] [] σ6
      else
        if v7 = (-1 : Int32) then
          some (vi (-1 : Int32), σ6)
        else
          z_g (z_kd σ6 r0 == 12) (z_bI (z_call d 19 [vi x3, vi (0 : Int32), vi ((z_i σ6 r0 31) - (1 : Int32))] σ6) (fun v9 σ8 =>
          if v9 = 0 then
            some (vi (-1 : Int32), σ8)
          else
            z_w d_M_chairs (z_call d) 68 [some (vr r0), none, none, some (vi x3), some (vi v7), some (vi (0 : Int32)), none] [] σ8)))))))))) := (z_w_eq _ _ _ _ _ _).trans rfl
set_option maxRecDepth 100000 in
theorem e_M_chairs_68 (cl : Nat → List ZV → ZM → ZR) (r0 : Nat) (x3 : Int32) (x4 : Int32) (x5 : Int32) (σ : ZM) : z_w d_M_chairs cl 68 [some (vr r0), none, none, some (vi x3), some (vi x4), some (vi x5), none] [] σ =
  z_g (z_kd σ r0 == 12) (if x5 < (z_i σ r0 31) then
    z_g (z_kd σ r0 == 12) (z_g (z_at σ (z_r σ r0 28) 20 x5 && Nat.ble 10 (z_r σ r0 28)) (z_x (z_ui σ (z_r σ r0 28) x5.toNatClampNeg x5) (fun σ1 =>
    z_w d_M_chairs cl 68 [some (vr r0), none, none, some (vi x3), some (vi x4), some (vi (x5 + (1 : Int32))), none] [] σ1)))
  else
    z_w d_M_chairs cl 98 [some (vr r0), none, none, some (vi x3), some (vi x4), some (vi (0 : Int32)), some (vi (1 : Int32))] [] σ) := (z_w_eq _ _ _ _ _ _).trans rfl
set_option maxRecDepth 100000 in
theorem e_M_chairs_98 (cl : Nat → List ZV → ZM → ZR) (r0 : Nat) (x3 : Int32) (x4 : Int32) (x5 : Int32) (x6 : Int32) (σ : ZM) : z_w d_M_chairs cl 98 [some (vr r0), none, none, some (vi x3), some (vi x4), some (vi x5), some (vi x6)] [] σ =
  if x6 = 0 then
    some (vi x5, σ)
  else
    z_g (z_kd σ r0 == 12) (z_bI (cl 302 [vr r0] σ) (fun v2 σ1 =>
    if v2 = 0 then
      z_g (z_kd σ1 r0 == 12) (z_bI (cl 251 [vr r0] σ1) (fun v4 σ3 =>
      z_w d_M_chairs cl 98 [some (vr r0), none, none, some (vi x3), some (vi x4), some (vi x5), some (vi v4)] [] σ3))
    else
      if x4 = (-1 : Int32) then
        z_x (x5 + (1 : Int32)) (fun u5 => z_g (z_kd σ1 r0 == 12) (z_bI (cl 251 [vr r0] σ1) (fun v7 σ6 =>
        z_w d_M_chairs cl 98 [some (vr r0), none, none, some (vi x3), some (vi x4), some (vi u5), some (vi v7)] [] σ6)))
      else
        z_g (z_kd σ1 r0 == 12) (z_g (z_at σ1 (z_r σ1 r0 28) 20 x4) (if (z_i σ1 (z_r σ1 r0 28) x4.toNatClampNeg) = x3 then
          z_x (x5 + (1 : Int32)) (fun u10 => z_g (z_kd σ1 r0 == 12) (z_bI (cl 251 [vr r0] σ1) (fun v12 σ11 =>
          z_w d_M_chairs cl 98 [some (vr r0), none, none, some (vi x3), some (vi x4), some (vi u10), some (vi v12)] [] σ11)))
        else
          z_g (z_kd σ1 r0 == 12) (z_bI (cl 251 [vr r0] σ1) (fun v9 σ8 =>
          z_w d_M_chairs cl 98 [some (vr r0), none, none, some (vi x3), some (vi x4), some (vi x5), some (vi v9)] [] σ8)))))) := (z_w_eq _ _ _ _ _ _).trans rfl
set_option maxRecDepth 100000 in
theorem e_Qu_lawsBy (d : Nat) (r0 : Nat) (x1 : Int32) (σ : ZM) : z_call (d + 1) 304 [vr r0, vi x1] σ =
  z_g (z_kd σ r0 == 6) (z_bV (z_call d 214 [vr r0] σ) (fun σ1 =>
  z_w d_Qu_lawsBy (z_call d) 8 [some (vr r0), some (vi x1), some (vi (0 : Int32)), some (vi (0 : Int32))] [] σ1)) := (z_w_eq _ _ _ _ _ _).trans rfl
set_option maxRecDepth 100000 in
theorem e_Qu_lawsBy_8 (cl : Nat → List ZV → ZM → ZR) (r0 : Nat) (x1 : Int32) (x2 : Int32) (x3 : Int32) (σ : ZM) : z_w d_Qu_lawsBy cl 8 [some (vr r0), some (vi x1), some (vi x2), some (vi x3)] [] σ =
  z_g (z_kd σ r0 == 6) (z_g (z_kd σ (z_r σ r0 0) == 4) (if x3 < (z_i σ (z_r σ r0 0) 10) then
    z_g (z_kd σ r0 == 6) (z_g (z_kd σ (z_r σ r0 0) == 4) (z_bR (cl 327 [vr (z_r σ r0 0), vi x3] σ) (fun v2 σ1 =>
    z_g (z_kd σ1 r0 == 6) (z_bI (cl 215 [vr r0, vr v2] σ1) (fun v4 σ3 =>
    if v4 = x1 then
      z_x (x2 ||| ((1 : Int32) <<< (x3 &&& 31))) (fun u5 => z_w d_Qu_lawsBy cl 8 [some (vr r0), some (vi x1), some (vi u5), some (vi (x3 + (1 : Int32)))] [] σ3)
    else
      z_w d_Qu_lawsBy cl 8 [some (vr r0), some (vi x1), some (vi x2), some (vi (x3 + (1 : Int32)))] [] σ3)))))
  else
    some (vi x2, σ))) := (z_w_eq _ _ _ _ _ _).trans rfl
set_option maxRecDepth 100000 in
theorem e_B_whoseLaw (d : Nat) (r0 : Nat) (x1 : Int32) (σ : ZM) : z_call (d + 1) 305 [vr r0, vi x1] σ =
  z_g (z_kd σ r0 == 11) (z_g (z_kd σ (z_r σ r0 0) == 4) (z_bI (z_call d 220 [vr (z_r σ r0 0), vi x1] σ) (fun v2 σ1 =>
  if v2 = 0 then
    some (vi (-1 : Int32), σ1)
  else
    z_g (z_kd σ1 r0 == 11) (z_g (z_kd σ1 (z_r σ1 r0 13) == 6) (z_bI (z_call d 304 [vr (z_r σ1 r0 13), vi x1] σ1) (fun v4 σ3 =>
    some (vi v4, σ3))))))) := (z_w_eq _ _ _ _ _ _).trans rfl
set_option maxRecDepth 100000 in
theorem e_M_whoseLaw (d : Nat) (r0 : Nat) (x1 : Int32) (σ : ZM) : z_call (d + 1) 306 [vr r0, vi x1] σ =
  z_g (z_kd σ r0 == 12) (z_bI (z_call d 225 [vr r0, vi x1] σ) (fun v2 σ1 =>
  if v2 = 0 then
    some (vi (-1 : Int32), σ1)
  else
    z_w d_M_whoseLaw (z_call d) 14 [some (vr r0), some (vi x1), some (vi (0 : Int32)), some (vi (0 : Int32)), none, none] [] σ1)) := (z_w_eq _ _ _ _ _ _).trans rfl
set_option maxRecDepth 100000 in
theorem e_M_whoseLaw_14 (cl : Nat → List ZV → ZM → ZR) (r0 : Nat) (x1 : Int32) (x2 : Int32) (x3 : Int32) (σ : ZM) : z_w d_M_whoseLaw cl 14 [some (vr r0), some (vi x1), some (vi x2), some (vi x3), none, none] [] σ =
  z_g (z_kd σ r0 == 12) (z_g (z_at σ (z_r σ r0 0) 20 (5 : Int32)) (if x3 < (z_i σ (z_r σ r0 0) (5 : Int32).toNatClampNeg) then
    z_w d_M_whoseLaw cl 30 [some (vr r0), some (vi x1), some (vi x2), some (vi x3), some (vi (0 : Int32)), some (vi (0 : Int32))] [] σ
  else
    some (vi x2, σ))) := (z_w_eq _ _ _ _ _ _).trans rfl
set_option maxRecDepth 100000 in
theorem e_M_whoseLaw_30 (cl : Nat → List ZV → ZM → ZR) (r0 : Nat) (x1 : Int32) (x2 : Int32) (x3 : Int32) (x4 : Int32) (x5 : Int32) (σ : ZM) : z_w d_M_whoseLaw cl 30 [some (vr r0), some (vi x1), some (vi x2), some (vi x3), some (vi x4), some (vi x5)] [] σ =
  z_g (z_kd σ r0 == 12) (z_g (z_at σ (z_r σ r0 0) 20 (2 : Int32)) (if x5 < (z_i σ (z_r σ r0 0) (2 : Int32).toNatClampNeg) then
    z_g (z_kd σ r0 == 12) (z_g (z_at σ (z_r σ r0 0) 20 ((82 : Int32) + ((2 : Int32) * x5))) (z_g (z_kd σ r0 == 12) (z_bI (cl 206 [vr r0, vi (z_i σ (z_r σ r0 0) ((82 : Int32) + ((2 : Int32) * x5)).toNatClampNeg)] σ) (fun v4 σ3 =>
    z_g (z_kd σ3 r0 == 12) (z_g (z_at σ3 (z_r σ3 r0 0) 20 ((82 : Int32) + ((2 : Int32) * x5))) (z_g (z_kd σ3 r0 == 12) (z_bI (cl 207 [vr r0, vi x3, vi x5, vi v4, vi (z_i σ3 (z_r σ3 r0 0) ((82 : Int32) + ((2 : Int32) * x5)).toNatClampNeg)] σ3) (fun v6 σ5 =>
    if v6 = 0 then
      z_x (x4 ||| ((1 : Int32) <<< (x5 &&& 31))) (fun u7 => z_w d_M_whoseLaw cl 30 [some (vr r0), some (vi x1), some (vi x2), some (vi x3), some (vi u7), some (vi (x5 + (1 : Int32)))] [] σ5)
    else
      z_x (x4 ||| (0 : Int32)) (fun u8 => z_w d_M_whoseLaw cl 30 [some (vr r0), some (vi x1), some (vi x2), some (vi x3), some (vi u8), some (vi (x5 + (1 : Int32)))] [] σ5)))))))))
  else
    if x4 = x1 then
      z_x (x2 ||| ((1 : Int32) <<< (x3 &&& 31))) (fun u2 => z_w d_M_whoseLaw cl 14 [some (vr r0), some (vi x1), some (vi u2), some (vi (x3 + (1 : Int32))), none, none] [] σ)
    else
      z_x (x2 ||| (0 : Int32)) (fun u1 => z_w d_M_whoseLaw cl 14 [some (vr r0), some (vi x1), some (vi u1), some (vi (x3 + (1 : Int32))), none, none] [] σ))) := (z_w_eq _ _ _ _ _ _).trans rfl
set_option maxRecDepth 100000 in
theorem e_To_addSeen (d : Nat) (r0 : Nat) (x1 : Int32) (x2 : Int32) (x3 : Int32) (σ : ZM) : z_call (d + 1) 307 [vr r0, vi x1, vi x2, vi x3] σ =
  z_g (z_kd σ r0 == 10) (if (z_i σ r0 3) < (8 : Int32) then
    z_g (z_kd σ r0 == 10) (z_g (z_kd σ r0 == 10) (z_g (z_at σ (z_r σ r0 4) 20 (z_i σ r0 3) && Nat.ble 10 (z_r σ r0 4)) (z_x (z_ui σ (z_r σ r0 4) (z_i σ r0 3).toNatClampNeg x1) (fun σ1 =>
    z_g (z_kd σ1 r0 == 10) (z_g (z_kd σ1 r0 == 10) (z_g (z_at σ1 (z_r σ1 r0 5) 20 (z_i σ1 r0 3) && Nat.ble 10 (z_r σ1 r0 5)) (z_x (z_ui σ1 (z_r σ1 r0 5) (z_i σ1 r0 3).toNatClampNeg x2) (fun σ2 =>
    z_g (z_kd σ2 r0 == 10) (z_g (z_kd σ2 r0 == 10) (z_g (z_at σ2 (z_r σ2 r0 6) 20 (z_i σ2 r0 3) && Nat.ble 10 (z_r σ2 r0 6)) (z_x (z_ui σ2 (z_r σ2 r0 6) (z_i σ2 r0 3).toNatClampNeg x3) (fun σ3 =>
    z_g (z_kd σ3 r0 == 10) (z_g (z_kd σ3 r0 == 10) (z_x (z_ui σ3 r0 3 ((z_i σ3 r0 3) + (1 : Int32))) (fun σ4 =>
    z_g (z_kd σ4 r0 == 10) (some (vi (z_i σ4 r0 3), σ4)))))))))))))))))
  else
    some (vi (-2 : Int32), σ)) := (z_w_eq _ _ _ _ _ _).trans rfl
set_option maxRecDepth 100000 in
theorem e_B_seen (d : Nat) (r0 : Nat) (x1 : Int32) (x2 : Int32) (x3 : Int32) (σ : ZM) : z_call (d + 1) 308 [vr r0, vi x1, vi x2, vi x3] σ =
  if x1 = (-1 : Int32) then
    z_g (z_kd σ r0 == 11) (z_g (z_kd σ (z_r σ r0 3) == 10) (z_x (z_ui σ (z_r σ r0 3) 3 (0 : Int32)) (fun σ9 =>
    some (vi (0 : Int32), σ9))))
  else
    z_g (z_kd σ r0 == 11) (z_g (z_kd σ (z_r σ r0 0) == 4) (z_bI (z_call d 118 [vr (z_r σ r0 0), vi x1] σ) (fun v2 σ1 =>
    if v2 = 0 then
      some (vi (-2 : Int32), σ1)
    else
      z_bI (z_call d 16 [vi x2, vi (0 : Int32), vi (9999 : Int32)] σ1) (fun v4 σ3 =>
      if v4 = 0 then
        some (vi (-2 : Int32), σ3)
      else
        z_bI (z_call d 16 [vi x3, vi (-1 : Int32), vi (1 : Int32)] σ3) (fun v6 σ5 =>
        if v6 = 0 then
          some (vi (-2 : Int32), σ5)
        else
          z_g (z_kd σ5 r0 == 11) (z_g (z_kd σ5 (z_r σ5 r0 3) == 10) (z_bI (z_call d 307 [vr (z_r σ5 r0 3), vi x1, vi x2, vi x3] σ5) (fun v8 σ7 =>
          some (vi v8, σ7))))))))) := (z_w_eq _ _ _ _ _ _).trans rfl
set_option maxRecDepth 100000 in
theorem e_M_seen (d : Nat) (r0 : Nat) (x1 : Int32) (x2 : Int32) (x3 : Int32) (σ : ZM) : z_call (d + 1) 309 [vr r0, vi x1, vi x2, vi x3] σ =
  if x1 = (-1 : Int32) then
    z_g (z_kd σ r0 == 12) (z_g (z_at σ (z_r σ r0 0) 20 (10 : Int32) && Nat.ble 10 (z_r σ r0 0)) (z_x (z_ui σ (z_r σ r0 0) (10 : Int32).toNatClampNeg (0 : Int32)) (fun σ13 =>
    some (vi (0 : Int32), σ13))))
  else
    z_g (z_kd σ r0 == 12) (z_bI (z_call d 125 [vr r0, vi x1] σ) (fun v2 σ1 =>
    if v2 = 0 then
      some (vi (-2 : Int32), σ1)
    else
      z_bI (z_call d 19 [vi x2, vi (0 : Int32), vi (9999 : Int32)] σ1) (fun v4 σ3 =>
      if v4 = 0 then
        some (vi (-2 : Int32), σ3)
      else
        z_bI (z_call d 19 [vi x3, vi (-1 : Int32), vi (1 : Int32)] σ3) (fun v6 σ5 =>
        if v6 = 0 then
          some (vi (-2 : Int32), σ5)
        else
          z_g (z_kd σ5 r0 == 12) (z_g (z_at σ5 (z_r σ5 r0 0) 20 (10 : Int32)) (if (z_i σ5 (z_r σ5 r0 0) (10 : Int32).toNatClampNeg) = (8 : Int32) then
            some (vi (-2 : Int32), σ5)
          else
            z_g (z_kd σ5 r0 == 12) (z_g (z_at σ5 (z_r σ5 r0 0) 20 (10 : Int32)) (z_x ((162 : Int32) + ((3 : Int32) * (z_i σ5 (z_r σ5 r0 0) (10 : Int32).toNatClampNeg))) (fun u7 => z_g (z_kd σ5 r0 == 12) (z_g (z_at σ5 (z_r σ5 r0 0) 20 u7 && Nat.ble 10 (z_r σ5 r0 0)) (z_x (z_ui σ5 (z_r σ5 r0 0) u7.toNatClampNeg x1) (fun σ8 =>
            z_g (z_kd σ8 r0 == 12) (z_g (z_at σ8 (z_r σ8 r0 0) 20 (u7 + (1 : Int32)) && Nat.ble 10 (z_r σ8 r0 0)) (z_x (z_ui σ8 (z_r σ8 r0 0) (u7 + (1 : Int32)).toNatClampNeg x2) (fun σ9 =>
            z_g (z_kd σ9 r0 == 12) (z_g (z_at σ9 (z_r σ9 r0 0) 20 (u7 + (2 : Int32)) && Nat.ble 10 (z_r σ9 r0 0)) (z_x (z_ui σ9 (z_r σ9 r0 0) (u7 + (2 : Int32)).toNatClampNeg x3) (fun σ10 =>
            z_g (z_kd σ10 r0 == 12) (z_x (z_r σ10 r0 0) (fun u11 => z_g (z_at σ10 u11 20 (10 : Int32)) (z_g (z_at σ10 u11 20 (10 : Int32) && Nat.ble 10 u11) (z_x (z_ui σ10 u11 (10 : Int32).toNatClampNeg ((z_i σ10 u11 (10 : Int32).toNatClampNeg) + (1 : Int32))) (fun σ12 =>
            z_g (z_kd σ12 r0 == 12) (z_g (z_at σ12 (z_r σ12 r0 0) 20 (10 : Int32)) (some (vi (z_i σ12 (z_r σ12 r0 0) (10 : Int32).toNatClampNeg), σ12)))))))))))))))))))))))))) := (z_w_eq _ _ _ _ _ _).trans rfl
set_option maxRecDepth 100000 in
theorem e_In_signum (d : Nat) (x0 : Int32) (σ : ZM) : z_call (d + 1) 310 [vi x0] σ =
  some (vi ((x0 >>> ((31 : Int32) &&& 31)) ||| ((-x0).toUInt32 >>> ((31 : Int32).toUInt32 &&& Int32.toUInt32 31)).toInt32), σ) := (z_w_eq _ _ _ _ _ _).trans rfl
set_option maxRecDepth 100000 in
theorem e_Qu_isSeenBy (d : Nat) (r0 : Nat) (x1 : Int32) (x2 : Int32) (σ : ZM) : z_call (d + 1) 311 [vr r0, vi x1, vi x2] σ =
  z_w d_Qu_isSeenBy (z_call d) 2 [some (vr r0), some (vi x1), some (vi x2), some (vi (0 : Int32)), none] [] σ := (z_w_eq _ _ _ _ _ _).trans rfl
set_option maxRecDepth 100000 in
theorem e_Qu_isSeenBy_2 (cl : Nat → List ZV → ZM → ZR) (r0 : Nat) (x1 : Int32) (x2 : Int32) (x3 : Int32) (σ : ZM) : z_w d_Qu_isSeenBy cl 2 [some (vr r0), some (vi x1), some (vi x2), some (vi x3), none] [] σ =
  z_g (z_kd σ r0 == 6) (z_g (z_kd σ (z_r σ r0 2) == 10) (if x3 < (z_i σ (z_r σ r0 2) 3) then
    z_g (z_kd σ r0 == 6) (z_g (z_kd σ (z_r σ r0 2) == 10) (z_g (z_at σ (z_r σ (z_r σ r0 2) 4) 20 x3) (if (z_i σ (z_r σ (z_r σ r0 2) 4) x3.toNatClampNeg) = x1 then
      z_g (z_kd σ r0 == 6) (z_g (z_kd σ r0 == 6) (z_g (z_kd σ (z_r σ r0 2) == 10) (z_g (z_at σ (z_r σ (z_r σ r0 2) 5) 20 x3) (z_g (z_kd σ r0 == 6) (z_g (z_kd σ (z_r σ r0 1) == 5) (z_g (z_at σ (z_r σ (z_r σ r0 1) 0) 20 x1) (z_g (z_kd σ r0 == 6) (z_g (z_kd σ (z_r σ r0 1) == 5) (z_g (z_at σ (z_r σ (z_r σ r0 1) 1) 20 x1) (z_g (z_kd σ r0 == 6) (z_g (z_kd σ (z_r σ r0 1) == 5) (z_g (z_kd σ (z_r σ r0 3) == 1) (z_bI (cl 191 [vr (z_r σ r0 3), vi x1, vi (z_i σ (z_r σ (z_r σ r0 2) 5) x3.toNatClampNeg), vi (z_i σ (z_r σ (z_r σ r0 1) 0) x1.toNatClampNeg), vi (z_i σ (z_r σ (z_r σ r0 1) 1) x1.toNatClampNeg), vi (z_i σ (z_r σ r0 1) 2), vi x2] σ) (fun v2 σ1 =>
      z_bI (cl 310 [vi v2] σ1) (fun v4 σ3 =>
      z_g (z_kd σ3 r0 == 6) (z_g (z_kd σ3 (z_r σ3 r0 2) == 10) (z_g (z_at σ3 (z_r σ3 (z_r σ3 r0 2) 6) 20 x3) (if v4 = (z_i σ3 (z_r σ3 (z_r σ3 r0 2) 6) x3.toNatClampNeg) then
        z_w d_Qu_isSeenBy cl 2 [some (vr r0), some (vi x1), some (vi x2), some (vi (x3 + (1 : Int32))), none] [] σ3
      else
        some (vi (0 : Int32), σ3)))))))))))))))))))
    else
      z_w d_Qu_isSeenBy cl 2 [some (vr r0), some (vi x1), some (vi x2), some (vi (x3 + (1 : Int32))), none] [] σ)))
  else
    some (vi (1 : Int32), σ))) := (z_w_eq _ _ _ _ _ _).trans rfl
set_option maxRecDepth 100000 in
theorem e_Qu_startsOf (d : Nat) (r0 : Nat) (x1 : Int32) (σ : ZM) : z_call (d + 1) 312 [vr r0, vi x1] σ =
  z_w d_Qu_startsOf (z_call d) 4 [some (vr r0), some (vi x1), some (vi (0 : Int32)), some (vi (0 : Int32))] [] σ := (z_w_eq _ _ _ _ _ _).trans rfl
set_option maxRecDepth 100000 in
theorem e_Qu_startsOf_4 (cl : Nat → List ZV → ZM → ZR) (r0 : Nat) (x1 : Int32) (x2 : Int32) (x3 : Int32) (σ : ZM) : z_w d_Qu_startsOf cl 4 [some (vr r0), some (vi x1), some (vi x2), some (vi x3)] [] σ =
  if (17 : Int32) < x3 then
    some (vi x2, σ)
  else
    z_g (z_kd σ r0 == 6) (z_bI (cl 311 [vr r0, vi x1, vi x3] σ) (fun v2 σ1 =>
    if v2 = 0 then
      z_w d_Qu_startsOf cl 4 [some (vr r0), some (vi x1), some (vi x2), some (vi (x3 + (1 : Int32)))] [] σ1
    else
      z_x (x2 ||| ((1 : Int32) <<< (x3 &&& 31))) (fun u3 => z_w d_Qu_startsOf cl 4 [some (vr r0), some (vi x1), some (vi u3), some (vi (x3 + (1 : Int32)))] [] σ1))) := (z_w_eq _ _ _ _ _ _).trans rfl
set_option maxRecDepth 100000 in
theorem e_B_starts (d : Nat) (r0 : Nat) (x1 : Int32) (σ : ZM) : z_call (d + 1) 313 [vr r0, vi x1] σ =
  z_g (z_kd σ r0 == 11) (z_g (z_kd σ (z_r σ r0 0) == 4) (z_bI (z_call d 118 [vr (z_r σ r0 0), vi x1] σ) (fun v2 σ1 =>
  if v2 = 0 then
    some (vi (-1 : Int32), σ1)
  else
    z_g (z_kd σ1 r0 == 11) (z_g (z_kd σ1 (z_r σ1 r0 13) == 6) (z_bI (z_call d 312 [vr (z_r σ1 r0 13), vi x1] σ1) (fun v4 σ3 =>
    some (vi v4, σ3))))))) := (z_w_eq _ _ _ _ _ _).trans rfl
set_option maxRecDepth 100000 in
theorem e_M_isAsSeen (d : Nat) (r0 : Nat) (x1 : Int32) (σ : ZM) : z_call (d + 1) 314 [vr r0, vi x1] σ =
  z_w d_M_isAsSeen (z_call d) 2 [some (vr r0), some (vi x1), some (vi (0 : Int32)), none, none] [] σ := (z_w_eq _ _ _ _ _ _).trans rfl
set_option maxRecDepth 100000 in
theorem e_M_isAsSeen_2 (cl : Nat → List ZV → ZM → ZR) (r0 : Nat) (x1 : Int32) (x2 : Int32) (σ : ZM) : z_w d_M_isAsSeen cl 2 [some (vr r0), some (vi x1), some (vi x2), none, none] [] σ =
  z_g (z_kd σ r0 == 12) (z_g (z_at σ (z_r σ r0 0) 20 (10 : Int32)) (if x2 < (z_i σ (z_r σ r0 0) (10 : Int32).toNatClampNeg) then
    z_x ((162 : Int32) + ((3 : Int32) * x2)) (fun u1 => z_g (z_kd σ r0 == 12) (z_g (z_at σ (z_r σ r0 0) 20 u1) (if (z_i σ (z_r σ r0 0) u1.toNatClampNeg) = x1 then
      z_g (z_kd σ r0 == 12) (z_g (z_at σ (z_r σ r0 0) 20 (u1 + (1 : Int32))) (z_g (z_kd σ r0 == 12) (z_bI (cl 195 [vr r0, vi x1, vi (z_i σ (z_r σ r0 0) (u1 + (1 : Int32)).toNatClampNeg)] σ) (fun v3 σ2 =>
      if 0 < v3 then
        z_g (z_kd σ2 r0 == 12) (z_g (z_at σ2 (z_r σ2 r0 0) 20 (u1 + (2 : Int32))) (if (1 : Int32) = (z_i σ2 (z_r σ2 r0 0) (u1 + (2 : Int32)).toNatClampNeg) then
          z_w d_M_isAsSeen cl 2 [some (vr r0), some (vi x1), some (vi (x2 + (1 : Int32))), none, none] [] σ2
        else
          some (vi (0 : Int32), σ2)))
      else
        if v3 < 0 then
          z_g (z_kd σ2 r0 == 12) (z_g (z_at σ2 (z_r σ2 r0 0) 20 (u1 + (2 : Int32))) (if (-1 : Int32) = (z_i σ2 (z_r σ2 r0 0) (u1 + (2 : Int32)).toNatClampNeg) then
            z_w d_M_isAsSeen cl 2 [some (vr r0), some (vi x1), some (vi (x2 + (1 : Int32))), none, none] [] σ2
          else
            some (vi (0 : Int32), σ2)))
        else
          z_g (z_kd σ2 r0 == 12) (z_g (z_at σ2 (z_r σ2 r0 0) 20 (u1 + (2 : Int32))) (if (0 : Int32) = (z_i σ2 (z_r σ2 r0 0) (u1 + (2 : Int32)).toNatClampNeg) then
            z_w d_M_isAsSeen cl 2 [some (vr r0), some (vi x1), some (vi (x2 + (1 : Int32))), none, none] [] σ2
          else
            some (vi (0 : Int32), σ2)))))))
    else
      z_w d_M_isAsSeen cl 2 [some (vr r0), some (vi x1), some (vi (x2 + (1 : Int32))), none, none] [] σ)))
  else
    some (vi (1 : Int32), σ))) := (z_w_eq _ _ _ _ _ _).trans rfl
set_option maxRecDepth 100000 in
theorem e_M_starts (d : Nat) (r0 : Nat) (x1 : Int32) (σ : ZM) : z_call (d + 1) 315 [vr r0, vi x1] σ =
  z_g (z_kd σ r0 == 12) (z_bI (z_call d 125 [vr r0, vi x1] σ) (fun v2 σ1 =>
  if v2 = 0 then
    some (vi (-1 : Int32), σ1)
  else
    z_g (z_kd σ1 r0 == 12) (z_bI (z_call d 126 [vr r0, vi x1, vi (2 : Int32)] σ1) (fun v4 σ3 =>
    z_w d_M_starts (z_call d) 22 [some (vr r0), some (vi x1), some (vi v4), some (vi (0 : Int32)), some (vi (0 : Int32))] [] σ3)))) := (z_w_eq _ _ _ _ _ _).trans rfl
set_option maxRecDepth 100000 in
theorem e_M_starts_22 (cl : Nat → List ZV → ZM → ZR) (r0 : Nat) (x1 : Int32) (x2 : Int32) (x3 : Int32) (x4 : Int32) (σ : ZM) : z_w d_M_starts cl 22 [some (vr r0), some (vi x1), some (vi x2), some (vi x3), some (vi x4)] [] σ =
  if x4 < (18 : Int32) then
    z_g (z_kd σ r0 == 12) (z_bV (cl 23 [vr r0, vi x1, vi (2 : Int32), vi x4] σ) (fun σ2 =>
    z_g (z_kd σ2 r0 == 12) (z_bI (cl 314 [vr r0, vi x1] σ2) (fun v4 σ3 =>
    if v4 = 0 then
      z_x (x3 ||| (0 : Int32)) (fun u5 => z_w d_M_starts cl 22 [some (vr r0), some (vi x1), some (vi x2), some (vi u5), some (vi (x4 + (1 : Int32)))] [] σ3)
    else
      z_x (x3 ||| ((1 : Int32) <<< (x4 &&& 31))) (fun u6 => z_w d_M_starts cl 22 [some (vr r0), some (vi x1), some (vi x2), some (vi u6), some (vi (x4 + (1 : Int32)))] [] σ3)))))
  else
    z_g (z_kd σ r0 == 12) (z_bV (cl 23 [vr r0, vi x1, vi (2 : Int32), vi x2] σ) (fun σ1 =>
    some (vi x3, σ1))) := (z_w_eq _ _ _ _ _ _).trans rfl
set_option maxRecDepth 100000 in
theorem e_H_copyFrom (d : Nat) (r0 : Nat) (r1 : Nat) (σ : ZM) : z_call (d + 1) 316 [vr r0, vr r1] σ =
  z_g (z_kd σ r1 == 4) (z_g (z_kd σ r0 == 4) (z_x (z_ui σ r0 0 (z_i σ r1 0)) (fun σ1 =>
  z_g (z_kd σ1 r1 == 4) (z_g (z_kd σ1 r0 == 4) (z_bV (z_call d 1 [vr (z_r σ1 r1 1), vi (0 : Int32), vr (z_r σ1 r0 1), vi (0 : Int32), vi (10 : Int32)] σ1) (fun σ2 =>
  z_g (z_kd σ2 r1 == 4) (z_g (z_kd σ2 r0 == 4) (z_bV (z_call d 1 [vr (z_r σ2 r1 2), vi (0 : Int32), vr (z_r σ2 r0 2), vi (0 : Int32), vi (10 : Int32)] σ2) (fun σ3 =>
  z_g (z_kd σ3 r1 == 4) (z_g (z_kd σ3 r0 == 4) (z_x (z_ui σ3 r0 3 (z_i σ3 r1 3)) (fun σ4 =>
  z_g (z_kd σ4 r1 == 4) (z_g (z_kd σ4 r0 == 4) (z_bV (z_call d 1 [vr (z_r σ4 r1 4), vi (0 : Int32), vr (z_r σ4 r0 4), vi (0 : Int32), vi (10 : Int32)] σ4) (fun σ5 =>
  z_g (z_kd σ5 r1 == 4) (z_g (z_kd σ5 r0 == 4) (z_bV (z_call d 1 [vr (z_r σ5 r1 5), vi (0 : Int32), vr (z_r σ5 r0 5), vi (0 : Int32), vi (10 : Int32)] σ5) (fun σ6 =>
  z_g (z_kd σ6 r1 == 4) (z_g (z_kd σ6 r0 == 4) (z_bV (z_call d 1 [vr (z_r σ6 r1 6), vi (0 : Int32), vr (z_r σ6 r0 6), vi (0 : Int32), vi (10 : Int32)] σ6) (fun σ7 =>
  z_g (z_kd σ7 r1 == 4) (z_g (z_kd σ7 r0 == 4) (z_x (z_ui σ7 r0 7 (z_i σ7 r1 7)) (fun σ8 =>
  z_g (z_kd σ8 r1 == 4) (z_g (z_kd σ8 r0 == 4) (z_bV (z_call d 1 [vr (z_r σ8 r1 8), vi (0 : Int32), vr (z_r σ8 r0 8), vi (0 : Int32), vi (12 : Int32)] σ8) (fun σ9 =>
  z_g (z_kd σ9 r1 == 4) (z_g (z_kd σ9 r0 == 4) (z_bV (z_call d 1 [vr (z_r σ9 r1 9), vi (0 : Int32), vr (z_r σ9 r0 9), vi (0 : Int32), vi (12 : Int32)] σ9) (fun σ10 =>
  z_g (z_kd σ10 r1 == 4) (z_g (z_kd σ10 r0 == 4) (z_x (z_ui σ10 r0 10 (z_i σ10 r1 10)) (fun σ11 =>
  z_w d_H_copyFrom (z_call d) 139 [some (vr r0), some (vr r1), some (vi (0 : Int32))] [] σ11))))))))))))))))))))))))))))))))) := (z_w_eq _ _ _ _ _ _).trans rfl
set_option maxRecDepth 100000 in
theorem e_H_copyFrom_139 (cl : Nat → List ZV → ZM → ZR) (r0 : Nat) (r1 : Nat) (x2 : Int32) (σ : ZM) : z_w d_H_copyFrom cl 139 [some (vr r0), some (vr r1), some (vi x2)] [] σ =
  if x2 < (4 : Int32) then
    z_g (z_kd σ r0 == 4) (z_g (z_kd σ r1 == 4) (z_g (z_at σ (z_r σ r1 11) 24 x2) (z_g (z_at σ (z_r σ r0 11) 24 x2 && Nat.ble 10 (z_r σ r0 11) && ((z_r σ (z_r σ r1 11) x2.toNatClampNeg) == 0 || z_kd σ (z_r σ (z_r σ r1 11) x2.toNatClampNeg) == 9)) (z_x (z_ur σ (z_r σ r0 11) x2.toNatClampNeg (z_r σ (z_r σ r1 11) x2.toNatClampNeg)) (fun σ2 =>
    z_w d_H_copyFrom cl 139 [some (vr r0), some (vr r1), some (vi (x2 + (1 : Int32)))] [] σ2)))))
  else
    z_g (z_kd σ r1 == 4) (z_g (z_kd σ r0 == 4) (z_x (z_ui σ r0 12 (z_i σ r1 12)) (fun σ1 =>
    some (vi 0, σ1)))) := (z_w_eq _ _ _ _ _ _).trans rfl
set_option maxRecDepth 100000 in
theorem e_Mo_copyFrom (d : Nat) (r0 : Nat) (r1 : Nat) (σ : ZM) : z_call (d + 1) 317 [vr r0, vr r1] σ =
  z_g (z_kd σ r1 == 5) (z_g (z_kd σ r0 == 5) (z_bV (z_call d 1 [vr (z_r σ r1 0), vi (0 : Int32), vr (z_r σ r0 0), vi (0 : Int32), vi (10 : Int32)] σ) (fun σ1 =>
  z_g (z_kd σ1 r1 == 5) (z_g (z_kd σ1 r0 == 5) (z_bV (z_call d 1 [vr (z_r σ1 r1 1), vi (0 : Int32), vr (z_r σ1 r0 1), vi (0 : Int32), vi (10 : Int32)] σ1) (fun σ2 =>
  z_g (z_kd σ2 r1 == 5) (z_g (z_kd σ2 r0 == 5) (z_x (z_ui σ2 r0 2 (z_i σ2 r1 2)) (fun σ3 =>
  z_g (z_kd σ3 r1 == 5) (z_g (z_kd σ3 r0 == 5) (z_x (z_ui σ3 r0 3 (z_i σ3 r1 3)) (fun σ4 =>
  z_g (z_kd σ4 r1 == 5) (z_g (z_kd σ4 r0 == 5) (z_x (z_ui σ4 r0 4 (z_i σ4 r1 4)) (fun σ5 =>
  z_g (z_kd σ5 r1 == 5) (z_g (z_kd σ5 r0 == 5) (z_x (z_ui σ5 r0 5 (z_i σ5 r1 5)) (fun σ6 =>
  z_g (z_kd σ6 r1 == 5) (z_g (z_kd σ6 r0 == 5) (z_bV (z_call d 1 [vr (z_r σ6 r1 6), vi (0 : Int32), vr (z_r σ6 r0 6), vi (0 : Int32), vi (20 : Int32)] σ6) (fun σ7 =>
  z_g (z_kd σ7 r1 == 5) (z_g (z_kd σ7 r0 == 5) (z_bV (z_call d 1 [vr (z_r σ7 r1 7), vi (0 : Int32), vr (z_r σ7 r0 7), vi (0 : Int32), vi (20 : Int32)] σ7) (fun σ8 =>
  some (vi 0, σ8))))))))))))))))))))))))) := (z_w_eq _ _ _ _ _ _).trans rfl
set_option maxRecDepth 100000 in
theorem e_St_copyFrom (d : Nat) (r0 : Nat) (r1 : Nat) (σ : ZM) : z_call (d + 1) 318 [vr r0, vr r1] σ =
  z_g (z_kd σ r1 == 8) (z_g (z_kd σ r0 == 8) (z_g (z_kd σ r0 == 8) (z_g (Nat.ble 20 (z_kd σ (z_r σ r0 0)) && Nat.ble (z_kd σ (z_r σ r0 0)) 24) (z_bV (z_call d 1 [vr (z_r σ r1 0), vi (0 : Int32), vr (z_r σ r0 0), vi (0 : Int32), vi (nI (z_ln σ (z_r σ r0 0)))] σ) (fun σ1 =>
  z_g (z_kd σ1 r1 == 8) (z_g (z_kd σ1 r0 == 8) (z_x (z_ui σ1 r0 1 (z_i σ1 r1 1)) (fun σ2 =>
  z_g (z_kd σ2 r1 == 8) (z_g (z_kd σ2 r0 == 8) (z_x (z_ui σ2 r0 2 (z_i σ2 r1 2)) (fun σ3 =>
  some (vi 0, σ3)))))))))))) := (z_w_eq _ _ _ _ _ _).trans rfl
set_option maxRecDepth 100000 in
theorem e_To_copyFrom (d : Nat) (r0 : Nat) (r1 : Nat) (σ : ZM) : z_call (d + 1) 319 [vr r0, vr r1] σ =
  z_g (z_kd σ r1 == 10) (z_g (z_kd σ r0 == 10) (z_x (z_ui σ r0 0 (z_i σ r1 0)) (fun σ1 =>
  z_g (z_kd σ1 r1 == 10) (z_g (z_kd σ1 r0 == 10) (z_bV (z_call d 1 [vr (z_r σ1 r1 1), vi (0 : Int32), vr (z_r σ1 r0 1), vi (0 : Int32), vi (8 : Int32)] σ1) (fun σ2 =>
  z_g (z_kd σ2 r1 == 10) (z_g (z_kd σ2 r0 == 10) (z_bV (z_call d 1 [vr (z_r σ2 r1 2), vi (0 : Int32), vr (z_r σ2 r0 2), vi (0 : Int32), vi (8 : Int32)] σ2) (fun σ3 =>
  z_g (z_kd σ3 r1 == 10) (z_g (z_kd σ3 r0 == 10) (z_x (z_ui σ3 r0 3 (z_i σ3 r1 3)) (fun σ4 =>
  z_g (z_kd σ4 r1 == 10) (z_g (z_kd σ4 r0 == 10) (z_bV (z_call d 1 [vr (z_r σ4 r1 4), vi (0 : Int32), vr (z_r σ4 r0 4), vi (0 : Int32), vi (8 : Int32)] σ4) (fun σ5 =>
  z_g (z_kd σ5 r1 == 10) (z_g (z_kd σ5 r0 == 10) (z_bV (z_call d 1 [vr (z_r σ5 r1 5), vi (0 : Int32), vr (z_r σ5 r0 5), vi (0 : Int32), vi (8 : Int32)] σ5) (fun σ6 =>
  z_g (z_kd σ6 r1 == 10) (z_g (z_kd σ6 r0 == 10) (z_bV (z_call d 1 [vr (z_r σ6 r1 6), vi (0 : Int32), vr (z_r σ6 r0 6), vi (0 : Int32), vi (8 : Int32)] σ6) (fun σ7 =>
  some (vi 0, σ7)))))))))))))))))))))) := (z_w_eq _ _ _ _ _ _).trans rfl
set_option maxRecDepth 100000 in
theorem e_B_image (d : Nat) (r0 : Nat) (σ : ZM) : z_call (d + 1) 320 [vr r0] σ =
  z_g (z_kd σ r0 == 11) (z_g (z_kd σ r0 == 11) (z_g (z_kd σ (z_r σ r0 4) == 4) (z_bV (z_call d 316 [vr (z_r σ r0 4), vr (z_r σ r0 0)] σ) (fun σ1 =>
  z_g (z_kd σ1 r0 == 11) (z_g (z_kd σ1 r0 == 11) (z_g (z_kd σ1 (z_r σ1 r0 5) == 5) (z_bV (z_call d 317 [vr (z_r σ1 r0 5), vr (z_r σ1 r0 1)] σ1) (fun σ2 =>
  z_g (z_kd σ2 r0 == 11) (z_g (z_kd σ2 r0 == 11) (z_g (z_kd σ2 (z_r σ2 r0 6) == 8) (z_bV (z_call d 318 [vr (z_r σ2 r0 6), vr (z_r σ2 r0 2)] σ2) (fun σ3 =>
  z_g (z_kd σ3 r0 == 11) (z_g (z_kd σ3 r0 == 11) (z_g (z_kd σ3 (z_r σ3 r0 7) == 10) (z_bV (z_call d 319 [vr (z_r σ3 r0 7), vr (z_r σ3 r0 3)] σ3) (fun σ4 =>
  z_g (z_kd σ4 r0 == 11) (z_g (z_kd σ4 (z_r σ4 r0 1) == 5) (some (vi (z_i σ4 (z_r σ4 r0 1) 3), σ4))))))))))))))))))) := (z_w_eq _ _ _ _ _ _).trans rfl
set_option maxRecDepth 100000 in
theorem e_M_image (d : Nat) (r0 : Nat) (σ : ZM) : z_call (d + 1) 321 [vr r0] σ =
  z_g (z_kd σ r0 == 12) (z_g (z_kd σ r0 == 12) (z_bV (z_call d 14 [vr (z_r σ r0 0), vr (z_r σ r0 1)] σ) (fun σ1 =>
  z_g (z_kd σ1 r0 == 12) (z_g (z_at σ1 (z_r σ1 r0 0) 20 (3 : Int32)) (some (vi (z_i σ1 (z_r σ1 r0 0) (3 : Int32).toNatClampNeg), σ1)))))) := (z_w_eq _ _ _ _ _ _).trans rfl
set_option maxRecDepth 100000 in
theorem e_B_back (d : Nat) (r0 : Nat) (σ : ZM) : z_call (d + 1) 322 [vr r0] σ =
  z_g (z_kd σ r0 == 11) (z_g (z_kd σ r0 == 11) (z_g (z_kd σ (z_r σ r0 0) == 4) (z_bV (z_call d 316 [vr (z_r σ r0 0), vr (z_r σ r0 4)] σ) (fun σ1 =>
  z_g (z_kd σ1 r0 == 11) (z_g (z_kd σ1 r0 == 11) (z_g (z_kd σ1 (z_r σ1 r0 1) == 5) (z_bV (z_call d 317 [vr (z_r σ1 r0 1), vr (z_r σ1 r0 5)] σ1) (fun σ2 =>
  z_g (z_kd σ2 r0 == 11) (z_g (z_kd σ2 r0 == 11) (z_g (z_kd σ2 (z_r σ2 r0 2) == 8) (z_bV (z_call d 318 [vr (z_r σ2 r0 2), vr (z_r σ2 r0 6)] σ2) (fun σ3 =>
  z_g (z_kd σ3 r0 == 11) (z_g (z_kd σ3 r0 == 11) (z_g (z_kd σ3 (z_r σ3 r0 3) == 10) (z_bV (z_call d 319 [vr (z_r σ3 r0 3), vr (z_r σ3 r0 7)] σ3) (fun σ4 =>
  z_g (z_kd σ4 r0 == 11) (z_g (z_kd σ4 (z_r σ4 r0 1) == 5) (some (vi (z_i σ4 (z_r σ4 r0 1) 3), σ4))))))))))))))))))) := (z_w_eq _ _ _ _ _ _).trans rfl
set_option maxRecDepth 100000 in
theorem e_M_back (d : Nat) (r0 : Nat) (σ : ZM) : z_call (d + 1) 323 [vr r0] σ =
  z_g (z_kd σ r0 == 12) (z_g (z_kd σ r0 == 12) (z_bV (z_call d 14 [vr (z_r σ r0 1), vr (z_r σ r0 0)] σ) (fun σ1 =>
  z_g (z_kd σ1 r0 == 12) (z_g (z_at σ1 (z_r σ1 r0 0) 20 (3 : Int32)) (some (vi (z_i σ1 (z_r σ1 r0 0) (3 : Int32).toNatClampNeg), σ1)))))) := (z_w_eq _ _ _ _ _ _).trans rfl
set_option maxRecDepth 100000 in
theorem e_B_about (d : Nat) (r0 : Nat) (x1 : Int32) (σ : ZM) : z_call (d + 1) 324 [vr r0, vi x1] σ =
  if x1 = (0 : Int32) then
    z_g (z_kd σ r0 == 11) (z_g (z_kd σ (z_r σ r0 0) == 4) (some (vi (z_i σ (z_r σ r0 0) 0), σ)))
  else if x1 = (1 : Int32) then
    z_g (z_kd σ r0 == 11) (z_g (z_kd σ (z_r σ r0 0) == 4) (some (vi (z_i σ (z_r σ r0 0) 3), σ)))
  else if x1 = (2 : Int32) then
    z_g (z_kd σ r0 == 11) (z_g (z_kd σ (z_r σ r0 0) == 4) (some (vi (z_i σ (z_r σ r0 0) 7), σ)))
  else if x1 = (3 : Int32) then
    z_g (z_kd σ r0 == 11) (z_g (z_kd σ (z_r σ r0 1) == 5) (some (vi (z_i σ (z_r σ r0 1) 3), σ)))
  else if x1 = (4 : Int32) then
    z_g (z_kd σ r0 == 11) (z_g (z_kd σ (z_r σ r0 1) == 5) (some (vi (z_i σ (z_r σ r0 1) 4), σ)))
  else if x1 = (5 : Int32) then
    z_g (z_kd σ r0 == 11) (z_g (z_kd σ (z_r σ r0 0) == 4) (some (vi (z_i σ (z_r σ r0 0) 10), σ)))
  else if x1 = (6 : Int32) then
    z_g (z_kd σ r0 == 11) (z_g (z_kd σ (z_r σ r0 0) == 4) (some (vi (z_i σ (z_r σ r0 0) 12), σ)))
  else if x1 = (7 : Int32) then
    z_g (z_kd σ r0 == 11) (z_g (z_kd σ (z_r σ r0 2) == 8) (some (vi (z_i σ (z_r σ r0 2) 2), σ)))
  else if x1 = (8 : Int32) then
    z_g (z_kd σ r0 == 11) (z_g (z_kd σ (z_r σ r0 1) == 5) (some (vi (z_i σ (z_r σ r0 1) 2), σ)))
  else if x1 = (9 : Int32) then
    z_g (z_kd σ r0 == 11) (z_g (z_kd σ (z_r σ r0 3) == 10) (some (vi (z_i σ (z_r σ r0 3) 0), σ)))
  else if x1 = (10 : Int32) then
    z_g (z_kd σ r0 == 11) (z_g (z_kd σ (z_r σ r0 3) == 10) (some (vi (z_i σ (z_r σ r0 3) 3), σ)))
  else if x1 = (11 : Int32) then
    z_g (z_kd σ r0 == 11) (some (vi (z_i σ r0 9), σ))
  else some (vi (-2 : Int32), σ) := (z_w_eq _ _ _ _ _ _).trans rfl
set_option maxRecDepth 100000 in
theorem e_M_about (d : Nat) (r0 : Nat) (x1 : Int32) (σ : ZM) : z_call (d + 1) 325 [vr r0, vi x1] σ =
  z_bI (z_call d 19 [vi x1, vi (0 : Int32), vi (10 : Int32)] σ) (fun v2 σ1 =>
  if v2 = 0 then
    if x1 = (11 : Int32) then
      z_g (z_kd σ1 r0 == 12) (some (vi (z_i σ1 r0 4), σ1))
    else
      some (vi (-2 : Int32), σ1)
  else
    z_g (z_kd σ1 r0 == 12) (z_g (z_at σ1 (z_r σ1 r0 0) 20 x1) (some (vi (z_i σ1 (z_r σ1 r0 0) x1.toNatClampNeg), σ1)))) := (z_w_eq _ _ _ _ _ _).trans rfl
set_option maxRecDepth 100000 in
theorem e_L_law (d : Nat) (r0 : Nat) (σ : ZM) : z_w d_L_law (z_call d) 0 [some (vr r0), none, none, none] [] σ =
  z_x (z_al σ 11 0 15) (fun σ1 =>
  z_x (z_sz σ) (fun u2 => z_g (!(u2 == 0) && !(u2 == 9)) (z_bV (z_call d 13 [vr u2] σ1) (fun σ3 =>
  z_x (z_al σ3 12 0 38) (fun σ4 =>
  z_x (z_sz σ3) (fun u5 => z_g (!(u5 == 0) && !(u5 == 9)) (z_bV (z_call d 15 [vr u5] σ4) (fun σ6 =>
  z_w d_L_law (z_call d) 18 [some (vr r0), some (vr u2), some (vr u5), some (vi (0 : Int32))] [] σ6)))))))) := (z_w_eq _ _ _ _ _ _).trans rfl
set_option maxRecDepth 100000 in
theorem e_L_law_18 (cl : Nat → List ZV → ZM → ZR) (r0 : Nat) (r1 : Nat) (r2 : Nat) (x3 : Int32) (σ : ZM) : z_w d_L_law cl 18 [some (vr r0), some (vr r1), some (vr r2), some (vi x3)] [] σ =
  z_g (Nat.ble 20 (z_kd σ r0) && Nat.ble (z_kd σ r0) 24) (if ((nI (z_ln σ r0)) - (6 : Int32)) < x3 then
    some (vi (1 : Int32), σ)
  else
    z_g (z_at σ r0 20 x3) (if ((z_i σ r0 x3.toNatClampNeg) &&& (63 : Int32)) = (0 : Int32) then
      z_w d_L_law cl 216 [some (vr r0), some (vr r1), some (vr r2), some (vi x3)] [] σ
    else if ((z_i σ r0 x3.toNatClampNeg) &&& (63 : Int32)) = (1 : Int32) then
      z_w d_L_law cl 249 [some (vr r0), some (vr r1), some (vr r2), some (vi x3)] [] σ
    else if ((z_i σ r0 x3.toNatClampNeg) &&& (63 : Int32)) = (2 : Int32) then
      z_w d_L_law cl 292 [some (vr r0), some (vr r1), some (vr r2), some (vi x3)] [] σ
    else if ((z_i σ r0 x3.toNatClampNeg) &&& (63 : Int32)) = (3 : Int32) then
      z_w d_L_law cl 325 [some (vr r0), some (vr r1), some (vr r2), some (vi x3)] [] σ
    else if ((z_i σ r0 x3.toNatClampNeg) &&& (63 : Int32)) = (4 : Int32) then
      z_w d_L_law cl 388 [some (vr r0), some (vr r1), some (vr r2), some (vi x3)] [] σ
    else if ((z_i σ r0 x3.toNatClampNeg) &&& (63 : Int32)) = (5 : Int32) then
      z_w d_L_law cl 411 [some (vr r0), some (vr r1), some (vr r2), some (vi x3)] [] σ
    else if ((z_i σ r0 x3.toNatClampNeg) &&& (63 : Int32)) = (6 : Int32) then
      z_w d_L_law cl 424 [some (vr r0), some (vr r1), some (vr r2), some (vi x3)] [] σ
    else if ((z_i σ r0 x3.toNatClampNeg) &&& (63 : Int32)) = (7 : Int32) then
      z_w d_L_law cl 447 [some (vr r0), some (vr r1), some (vr r2), some (vi x3)] [] σ
    else if ((z_i σ r0 x3.toNatClampNeg) &&& (63 : Int32)) = (8 : Int32) then
      z_w d_L_law cl 470 [some (vr r0), some (vr r1), some (vr r2), some (vi x3)] [] σ
    else if ((z_i σ r0 x3.toNatClampNeg) &&& (63 : Int32)) = (9 : Int32) then
      z_w d_L_law cl 503 [some (vr r0), some (vr r1), some (vr r2), some (vi x3)] [] σ
    else if ((z_i σ r0 x3.toNatClampNeg) &&& (63 : Int32)) = (10 : Int32) then
      z_w d_L_law cl 536 [some (vr r0), some (vr r1), some (vr r2), some (vi x3)] [] σ
    else if ((z_i σ r0 x3.toNatClampNeg) &&& (63 : Int32)) = (11 : Int32) then
      z_w d_L_law cl 569 [some (vr r0), some (vr r1), some (vr r2), some (vi x3)] [] σ
    else if ((z_i σ r0 x3.toNatClampNeg) &&& (63 : Int32)) = (12 : Int32) then
      z_w d_L_law cl 618 [some (vr r0), some (vr r1), some (vr r2), some (vi x3)] [] σ
    else if ((z_i σ r0 x3.toNatClampNeg) &&& (63 : Int32)) = (13 : Int32) then
      z_w d_L_law cl 641 [some (vr r0), some (vr r1), some (vr r2), some (vi x3)] [] σ
    else if ((z_i σ r0 x3.toNatClampNeg) &&& (63 : Int32)) = (14 : Int32) then
      z_w d_L_law cl 664 [some (vr r0), some (vr r1), some (vr r2), some (vi x3)] [] σ
    else if ((z_i σ r0 x3.toNatClampNeg) &&& (63 : Int32)) = (15 : Int32) then
      z_w d_L_law cl 687 [some (vr r0), some (vr r1), some (vr r2), some (vi x3)] [] σ
    else if ((z_i σ r0 x3.toNatClampNeg) &&& (63 : Int32)) = (16 : Int32) then
      z_w d_L_law cl 720 [some (vr r0), some (vr r1), some (vr r2), some (vi x3)] [] σ
    else if ((z_i σ r0 x3.toNatClampNeg) &&& (63 : Int32)) = (17 : Int32) then
      z_w d_L_law cl 733 [some (vr r0), some (vr r1), some (vr r2), some (vi x3)] [] σ
    else if ((z_i σ r0 x3.toNatClampNeg) &&& (63 : Int32)) = (18 : Int32) then
      z_w d_L_law cl 766 [some (vr r0), some (vr r1), some (vr r2), some (vi x3)] [] σ
    else if ((z_i σ r0 x3.toNatClampNeg) &&& (63 : Int32)) = (19 : Int32) then
      z_w d_L_law cl 799 [some (vr r0), some (vr r1), some (vr r2), some (vi x3)] [] σ
    else if ((z_i σ r0 x3.toNatClampNeg) &&& (63 : Int32)) = (20 : Int32) then
      z_w d_L_law cl 832 [some (vr r0), some (vr r1), some (vr r2), some (vi x3)] [] σ
    else if ((z_i σ r0 x3.toNatClampNeg) &&& (63 : Int32)) = (21 : Int32) then
      z_w d_L_law cl 855 [some (vr r0), some (vr r1), some (vr r2), some (vi x3)] [] σ
    else if ((z_i σ r0 x3.toNatClampNeg) &&& (63 : Int32)) = (22 : Int32) then
      z_w d_L_law cl 888 [some (vr r0), some (vr r1), some (vr r2), some (vi x3)] [] σ
    else if ((z_i σ r0 x3.toNatClampNeg) &&& (63 : Int32)) = (23 : Int32) then
      z_w d_L_law cl 901 [some (vr r0), some (vr r1), some (vr r2), some (vi x3)] [] σ
    else if ((z_i σ r0 x3.toNatClampNeg) &&& (63 : Int32)) = (24 : Int32) then
      z_w d_L_law cl 924 [some (vr r0), some (vr r1), some (vr r2), some (vi x3)] [] σ
    else if ((z_i σ r0 x3.toNatClampNeg) &&& (63 : Int32)) = (25 : Int32) then
      z_w d_L_law cl 957 [some (vr r0), some (vr r1), some (vr r2), some (vi x3)] [] σ
    else if ((z_i σ r0 x3.toNatClampNeg) &&& (63 : Int32)) = (26 : Int32) then
      z_w d_L_law cl 1000 [some (vr r0), some (vr r1), some (vr r2), some (vi x3)] [] σ
    else if ((z_i σ r0 x3.toNatClampNeg) &&& (63 : Int32)) = (27 : Int32) then
      z_w d_L_law cl 1023 [some (vr r0), some (vr r1), some (vr r2), some (vi x3)] [] σ
    else if ((z_i σ r0 x3.toNatClampNeg) &&& (63 : Int32)) = (28 : Int32) then
      z_w d_L_law cl 1036 [some (vr r0), some (vr r1), some (vr r2), some (vi x3)] [] σ
    else if ((z_i σ r0 x3.toNatClampNeg) &&& (63 : Int32)) = (29 : Int32) then
      z_w d_L_law cl 1075 [some (vr r0), some (vr r1), some (vr r2), some (vi x3)] [] σ
    else if ((z_i σ r0 x3.toNatClampNeg) &&& (63 : Int32)) = (30 : Int32) then
      z_w d_L_law cl 1098 [some (vr r0), some (vr r1), some (vr r2), some (vi x3)] [] σ
    else if ((z_i σ r0 x3.toNatClampNeg) &&& (63 : Int32)) = (31 : Int32) then
      z_w d_L_law cl 1111 [some (vr r0), some (vr r1), some (vr r2), some (vi x3)] [] σ
    else if ((z_i σ r0 x3.toNatClampNeg) &&& (63 : Int32)) = (32 : Int32) then
      z_w d_L_law cl 1171 [some (vr r0), some (vr r1), some (vr r2), some (vi x3)] [] σ
    else if ((z_i σ r0 x3.toNatClampNeg) &&& (63 : Int32)) = (33 : Int32) then
      z_w d_L_law cl 1204 [some (vr r0), some (vr r1), some (vr r2), some (vi x3)] [] σ
    else if ((z_i σ r0 x3.toNatClampNeg) &&& (63 : Int32)) = (34 : Int32) then
      z_w d_L_law cl 1273 [some (vr r0), some (vr r1), some (vr r2), some (vi x3)] [] σ
    else if ((z_i σ r0 x3.toNatClampNeg) &&& (63 : Int32)) = (35 : Int32) then
      z_w d_L_law cl 1306 [some (vr r0), some (vr r1), some (vr r2), some (vi x3)] [] σ
    else if ((z_i σ r0 x3.toNatClampNeg) &&& (63 : Int32)) = (36 : Int32) then
      z_w d_L_law cl 1349 [some (vr r0), some (vr r1), some (vr r2), some (vi x3)] [] σ
    else if ((z_i σ r0 x3.toNatClampNeg) &&& (63 : Int32)) = (37 : Int32) then
      z_w d_L_law cl 1372 [some (vr r0), some (vr r1), some (vr r2), some (vi x3)] [] σ
    else if ((z_i σ r0 x3.toNatClampNeg) &&& (63 : Int32)) = (38 : Int32) then
      z_w d_L_law cl 1415 [some (vr r0), some (vr r1), some (vr r2), some (vi x3)] [] σ
    else if ((z_i σ r0 x3.toNatClampNeg) &&& (63 : Int32)) = (39 : Int32) then
      z_w d_L_law cl 1438 [some (vr r0), some (vr r1), some (vr r2), some (vi x3)] [] σ
    else if ((z_i σ r0 x3.toNatClampNeg) &&& (63 : Int32)) = (40 : Int32) then
      z_w d_L_law cl 1451 [some (vr r0), some (vr r1), some (vr r2), some (vi x3)] [] σ
    else if ((z_i σ r0 x3.toNatClampNeg) &&& (63 : Int32)) = (41 : Int32) then
      z_w d_L_law cl 1464 [some (vr r0), some (vr r1), some (vr r2), some (vi x3)] [] σ
    else z_w d_L_law cl 1487 [some (vr r0), some (vr r1), some (vr r2), some (vi x3)] [] σ)) := (z_w_eq _ _ _ _ _ _).trans rfl
set_option maxRecDepth 100000 in
theorem e_L_law_216 (cl : Nat → List ZV → ZM → ZR) (r0 : Nat) (r1 : Nat) (r2 : Nat) (x3 : Int32) (σ : ZM) : z_w d_L_law cl 216 [some (vr r0), some (vr r1), some (vr r2), some (vi x3)] [] σ =
  z_g (z_at σ r0 20 (x3 + (1 : Int32))) (z_g (z_at σ r0 20 (x3 + (2 : Int32))) (z_g (z_kd σ r1 == 11) (z_bI (cl 18 [vr r1, vi (z_i σ r0 (x3 + (1 : Int32)).toNatClampNeg), vi (z_i σ r0 (x3 + (2 : Int32)).toNatClampNeg)] σ) (fun v2 σ1 =>
  z_g (z_at σ1 r0 20 (x3 + (1 : Int32))) (z_g (z_at σ1 r0 20 (x3 + (2 : Int32))) (z_g (z_kd σ1 r2 == 12) (z_bI (cl 20 [vr r2, vi (z_i σ1 r0 (x3 + (1 : Int32)).toNatClampNeg), vi (z_i σ1 r0 (x3 + (2 : Int32)).toNatClampNeg)] σ1) (fun v4 σ3 =>
  if v2 = v4 then
    z_w d_L_law cl 1487 [some (vr r0), some (vr r1), some (vr r2), some (vi x3)] [] σ3
  else
    some (vi (0 : Int32), σ3))))))))) := (z_w_eq _ _ _ _ _ _).trans rfl
set_option maxRecDepth 100000 in
theorem e_L_law_249 (cl : Nat → List ZV → ZM → ZR) (r0 : Nat) (r1 : Nat) (r2 : Nat) (x3 : Int32) (σ : ZM) : z_w d_L_law cl 249 [some (vr r0), some (vr r1), some (vr r2), some (vi x3)] [] σ =
  z_g (z_at σ r0 20 (x3 + (1 : Int32))) (z_g (z_at σ r0 20 (x3 + (2 : Int32))) (z_g (z_at σ r0 20 (x3 + (3 : Int32))) (z_g (z_kd σ r1 == 11) (z_bI (cl 22 [vr r1, vi (z_i σ r0 (x3 + (1 : Int32)).toNatClampNeg), vi (z_i σ r0 (x3 + (2 : Int32)).toNatClampNeg), vi (z_i σ r0 (x3 + (3 : Int32)).toNatClampNeg)] σ) (fun v2 σ1 =>
  z_g (z_at σ1 r0 20 (x3 + (1 : Int32))) (z_g (z_at σ1 r0 20 (x3 + (2 : Int32))) (z_g (z_at σ1 r0 20 (x3 + (3 : Int32))) (z_g (z_kd σ1 r2 == 12) (z_bI (cl 24 [vr r2, vi (z_i σ1 r0 (x3 + (1 : Int32)).toNatClampNeg), vi (z_i σ1 r0 (x3 + (2 : Int32)).toNatClampNeg), vi (z_i σ1 r0 (x3 + (3 : Int32)).toNatClampNeg)] σ1) (fun v4 σ3 =>
  if v2 = v4 then
    z_w d_L_law cl 1487 [some (vr r0), some (vr r1), some (vr r2), some (vi x3)] [] σ3
  else
    some (vi (0 : Int32), σ3))))))))))) := (z_w_eq _ _ _ _ _ _).trans rfl
set_option maxRecDepth 100000 in
theorem e_L_law_292 (cl : Nat → List ZV → ZM → ZR) (r0 : Nat) (r1 : Nat) (r2 : Nat) (x3 : Int32) (σ : ZM) : z_w d_L_law cl 292 [some (vr r0), some (vr r1), some (vr r2), some (vi x3)] [] σ =
  z_g (z_at σ r0 20 (x3 + (1 : Int32))) (z_g (z_at σ r0 20 (x3 + (2 : Int32))) (z_g (z_kd σ r1 == 11) (z_bI (cl 26 [vr r1, vi (z_i σ r0 (x3 + (1 : Int32)).toNatClampNeg), vi (z_i σ r0 (x3 + (2 : Int32)).toNatClampNeg)] σ) (fun v2 σ1 =>
  z_g (z_at σ1 r0 20 (x3 + (1 : Int32))) (z_g (z_at σ1 r0 20 (x3 + (2 : Int32))) (z_g (z_kd σ1 r2 == 12) (z_bI (cl 27 [vr r2, vi (z_i σ1 r0 (x3 + (1 : Int32)).toNatClampNeg), vi (z_i σ1 r0 (x3 + (2 : Int32)).toNatClampNeg)] σ1) (fun v4 σ3 =>
  if v2 = v4 then
    z_w d_L_law cl 1487 [some (vr r0), some (vr r1), some (vr r2), some (vi x3)] [] σ3
  else
    some (vi (0 : Int32), σ3))))))))) := (z_w_eq _ _ _ _ _ _).trans rfl
set_option maxRecDepth 100000 in
theorem e_L_law_325 (cl : Nat → List ZV → ZM → ZR) (r0 : Nat) (r1 : Nat) (r2 : Nat) (x3 : Int32) (σ : ZM) : z_w d_L_law cl 325 [some (vr r0), some (vr r1), some (vr r2), some (vi x3)] [] σ =
  z_g (z_at σ r0 20 (x3 + (1 : Int32))) (z_g (z_at σ r0 20 (x3 + (2 : Int32))) (z_g (z_at σ r0 20 (x3 + (3 : Int32))) (z_g (z_at σ r0 20 (x3 + (4 : Int32))) (z_g (z_at σ r0 20 (x3 + (5 : Int32))) (z_g (z_kd σ r1 == 11) (z_bI (cl 29 [vr r1, vi (z_i σ r0 (x3 + (1 : Int32)).toNatClampNeg), vi (z_i σ r0 (x3 + (2 : Int32)).toNatClampNeg), vi (z_i σ r0 (x3 + (3 : Int32)).toNatClampNeg), vi (z_i σ r0 (x3 + (4 : Int32)).toNatClampNeg), vi (z_i σ r0 (x3 + (5 : Int32)).toNatClampNeg)] σ) (fun v2 σ1 =>
  z_g (z_at σ1 r0 20 (x3 + (1 : Int32))) (z_g (z_at σ1 r0 20 (x3 + (2 : Int32))) (z_g (z_at σ1 r0 20 (x3 + (3 : Int32))) (z_g (z_at σ1 r0 20 (x3 + (4 : Int32))) (z_g (z_at σ1 r0 20 (x3 + (5 : Int32))) (z_g (z_kd σ1 r2 == 12) (z_bI (cl 31 [vr r2, vi (z_i σ1 r0 (x3 + (1 : Int32)).toNatClampNeg), vi (z_i σ1 r0 (x3 + (2 : Int32)).toNatClampNeg), vi (z_i σ1 r0 (x3 + (3 : Int32)).toNatClampNeg), vi (z_i σ1 r0 (x3 + (4 : Int32)).toNatClampNeg), vi (z_i σ1 r0 (x3 + (5 : Int32)).toNatClampNeg)] σ1) (fun v4 σ3 =>
  if v2 = v4 then
    z_w d_L_law cl 1487 [some (vr r0), some (vr r1), some (vr r2), some (vi x3)] [] σ3
  else
    some (vi (0 : Int32), σ3))))))))))))))) := (z_w_eq _ _ _ _ _ _).trans rfl
set_option maxRecDepth 100000 in
theorem e_L_law_388 (cl : Nat → List ZV → ZM → ZR) (r0 : Nat) (r1 : Nat) (r2 : Nat) (x3 : Int32) (σ : ZM) : z_w d_L_law cl 388 [some (vr r0), some (vr r1), some (vr r2), some (vi x3)] [] σ =
  z_g (z_at σ r0 20 (x3 + (1 : Int32))) (z_g (z_kd σ r1 == 11) (z_bI (cl 32 [vr r1, vi (z_i σ r0 (x3 + (1 : Int32)).toNatClampNeg)] σ) (fun v2 σ1 =>
  z_g (z_at σ1 r0 20 (x3 + (1 : Int32))) (z_g (z_kd σ1 r2 == 12) (z_bI (cl 33 [vr r2, vi (z_i σ1 r0 (x3 + (1 : Int32)).toNatClampNeg)] σ1) (fun v4 σ3 =>
  if v2 = v4 then
    z_w d_L_law cl 1487 [some (vr r0), some (vr r1), some (vr r2), some (vi x3)] [] σ3
  else
    some (vi (0 : Int32), σ3))))))) := (z_w_eq _ _ _ _ _ _).trans rfl
set_option maxRecDepth 100000 in
theorem e_L_law_411 (cl : Nat → List ZV → ZM → ZR) (r0 : Nat) (r1 : Nat) (r2 : Nat) (x3 : Int32) (σ : ZM) : z_w d_L_law cl 411 [some (vr r0), some (vr r1), some (vr r2), some (vi x3)] [] σ =
  z_g (z_kd σ r1 == 11) (z_bI (cl 75 [vr r1] σ) (fun v2 σ1 =>
  z_g (z_kd σ1 r2 == 12) (z_bI (cl 112 [vr r2] σ1) (fun v4 σ3 =>
  if v2 = v4 then
    z_w d_L_law cl 1487 [some (vr r0), some (vr r1), some (vr r2), some (vi x3)] [] σ3
  else
    some (vi (0 : Int32), σ3))))) := (z_w_eq _ _ _ _ _ _).trans rfl
set_option maxRecDepth 100000 in
theorem e_L_law_424 (cl : Nat → List ZV → ZM → ZR) (r0 : Nat) (r1 : Nat) (r2 : Nat) (x3 : Int32) (σ : ZM) : z_w d_L_law cl 424 [some (vr r0), some (vr r1), some (vr r2), some (vi x3)] [] σ =
  z_g (z_at σ r0 20 (x3 + (1 : Int32))) (z_g (z_kd σ r1 == 11) (z_bI (cl 113 [vr r1, vi (z_i σ r0 (x3 + (1 : Int32)).toNatClampNeg)] σ) (fun v2 σ1 =>
  z_g (z_at σ1 r0 20 (x3 + (1 : Int32))) (z_g (z_kd σ1 r2 == 12) (z_bI (cl 114 [vr r2, vi (z_i σ1 r0 (x3 + (1 : Int32)).toNatClampNeg)] σ1) (fun v4 σ3 =>
  if v2 = v4 then
    z_w d_L_law cl 1487 [some (vr r0), some (vr r1), some (vr r2), some (vi x3)] [] σ3
  else
    some (vi (0 : Int32), σ3))))))) := (z_w_eq _ _ _ _ _ _).trans rfl
set_option maxRecDepth 100000 in
theorem e_L_law_447 (cl : Nat → List ZV → ZM → ZR) (r0 : Nat) (r1 : Nat) (r2 : Nat) (x3 : Int32) (σ : ZM) : z_w d_L_law cl 447 [some (vr r0), some (vr r1), some (vr r2), some (vi x3)] [] σ =
  z_g (z_at σ r0 20 (x3 + (1 : Int32))) (z_g (z_kd σ r1 == 11) (z_bI (cl 116 [vr r1, vi (z_i σ r0 (x3 + (1 : Int32)).toNatClampNeg)] σ) (fun v2 σ1 =>
  z_g (z_at σ1 r0 20 (x3 + (1 : Int32))) (z_g (z_kd σ1 r2 == 12) (z_bI (cl 117 [vr r2, vi (z_i σ1 r0 (x3 + (1 : Int32)).toNatClampNeg)] σ1) (fun v4 σ3 =>
  if v2 = v4 then
    z_w d_L_law cl 1487 [some (vr r0), some (vr r1), some (vr r2), some (vi x3)] [] σ3
  else
    some (vi (0 : Int32), σ3))))))) := (z_w_eq _ _ _ _ _ _).trans rfl
set_option maxRecDepth 100000 in
theorem e_L_law_470 (cl : Nat → List ZV → ZM → ZR) (r0 : Nat) (r1 : Nat) (r2 : Nat) (x3 : Int32) (σ : ZM) : z_w d_L_law cl 470 [some (vr r0), some (vr r1), some (vr r2), some (vi x3)] [] σ =
  z_g (z_at σ r0 20 (x3 + (1 : Int32))) (z_g (z_at σ r0 20 (x3 + (2 : Int32))) (z_g (z_kd σ r1 == 11) (z_bI (cl 124 [vr r1, vi (z_i σ r0 (x3 + (1 : Int32)).toNatClampNeg), vi (z_i σ r0 (x3 + (2 : Int32)).toNatClampNeg)] σ) (fun v2 σ1 =>
  z_g (z_at σ1 r0 20 (x3 + (1 : Int32))) (z_g (z_at σ1 r0 20 (x3 + (2 : Int32))) (z_g (z_kd σ1 r2 == 12) (z_bI (cl 130 [vr r2, vi (z_i σ1 r0 (x3 + (1 : Int32)).toNatClampNeg), vi (z_i σ1 r0 (x3 + (2 : Int32)).toNatClampNeg)] σ1) (fun v4 σ3 =>
  if v2 = v4 then
    z_w d_L_law cl 1487 [some (vr r0), some (vr r1), some (vr r2), some (vi x3)] [] σ3
  else
    some (vi (0 : Int32), σ3))))))))) := (z_w_eq _ _ _ _ _ _).trans rfl
set_option maxRecDepth 100000 in
theorem e_L_law_503 (cl : Nat → List ZV → ZM → ZR) (r0 : Nat) (r1 : Nat) (r2 : Nat) (x3 : Int32) (σ : ZM) : z_w d_L_law cl 503 [some (vr r0), some (vr r1), some (vr r2), some (vi x3)] [] σ =
  z_g (z_at σ r0 20 (x3 + (1 : Int32))) (z_g (z_at σ r0 20 (x3 + (2 : Int32))) (z_g (z_kd σ r1 == 11) (z_bI (cl 132 [vr r1, vi (z_i σ r0 (x3 + (1 : Int32)).toNatClampNeg), vi (z_i σ r0 (x3 + (2 : Int32)).toNatClampNeg)] σ) (fun v2 σ1 =>
  z_g (z_at σ1 r0 20 (x3 + (1 : Int32))) (z_g (z_at σ1 r0 20 (x3 + (2 : Int32))) (z_g (z_kd σ1 r2 == 12) (z_bI (cl 133 [vr r2, vi (z_i σ1 r0 (x3 + (1 : Int32)).toNatClampNeg), vi (z_i σ1 r0 (x3 + (2 : Int32)).toNatClampNeg)] σ1) (fun v4 σ3 =>
  if v2 = v4 then
    z_w d_L_law cl 1487 [some (vr r0), some (vr r1), some (vr r2), some (vi x3)] [] σ3
  else
    some (vi (0 : Int32), σ3))))))))) := (z_w_eq _ _ _ _ _ _).trans rfl
set_option maxRecDepth 100000 in
theorem e_L_law_536 (cl : Nat → List ZV → ZM → ZR) (r0 : Nat) (r1 : Nat) (r2 : Nat) (x3 : Int32) (σ : ZM) : z_w d_L_law cl 536 [some (vr r0), some (vr r1), some (vr r2), some (vi x3)] [] σ =
  z_g (z_at σ r0 20 (x3 + (1 : Int32))) (z_g (z_at σ r0 20 (x3 + (2 : Int32))) (z_g (z_kd σ r1 == 11) (z_bI (cl 135 [vr r1, vi (z_i σ r0 (x3 + (1 : Int32)).toNatClampNeg), vi (z_i σ r0 (x3 + (2 : Int32)).toNatClampNeg)] σ) (fun v2 σ1 =>
  z_g (z_at σ1 r0 20 (x3 + (1 : Int32))) (z_g (z_at σ1 r0 20 (x3 + (2 : Int32))) (z_g (z_kd σ1 r2 == 12) (z_bI (cl 136 [vr r2, vi (z_i σ1 r0 (x3 + (1 : Int32)).toNatClampNeg), vi (z_i σ1 r0 (x3 + (2 : Int32)).toNatClampNeg)] σ1) (fun v4 σ3 =>
  if v2 = v4 then
    z_w d_L_law cl 1487 [some (vr r0), some (vr r1), some (vr r2), some (vi x3)] [] σ3
  else
    some (vi (0 : Int32), σ3))))))))) := (z_w_eq _ _ _ _ _ _).trans rfl
set_option maxRecDepth 100000 in
theorem e_L_law_569 (cl : Nat → List ZV → ZM → ZR) (r0 : Nat) (r1 : Nat) (r2 : Nat) (x3 : Int32) (σ : ZM) : z_w d_L_law cl 569 [some (vr r0), some (vr r1), some (vr r2), some (vi x3)] [] σ =
  z_g (z_at σ r0 20 (x3 + (1 : Int32))) (z_g (z_at σ r0 20 (x3 + (2 : Int32))) (if (z_i σ r0 (x3 + (2 : Int32)).toNatClampNeg) = 0 then
    z_g (z_kd σ r1 == 11) (z_bI (cl 139 [vr r1, vi (z_i σ r0 (x3 + (1 : Int32)).toNatClampNeg), vi (0 : Int32)] σ) (fun v2 σ1 =>
    z_g (z_at σ1 r0 20 (x3 + (1 : Int32))) (z_g (z_at σ1 r0 20 (x3 + (2 : Int32))) (if (z_i σ1 r0 (x3 + (2 : Int32)).toNatClampNeg) = 0 then
      z_g (z_kd σ1 r2 == 12) (z_bI (cl 140 [vr r2, vi (z_i σ1 r0 (x3 + (1 : Int32)).toNatClampNeg), vi (0 : Int32)] σ1) (fun v4 σ3 =>
      if v2 = v4 then
        z_w d_L_law cl 1487 [some (vr r0), some (vr r1), some (vr r2), some (vi x3)] [] σ3
      else
        some (vi (0 : Int32), σ3)))
    else
      z_g (z_kd σ1 r2 == 12) (z_bI (cl 140 [vr r2, vi (z_i σ1 r0 (x3 + (1 : Int32)).toNatClampNeg), vi (1 : Int32)] σ1) (fun v6 σ5 =>
      if v2 = v6 then
        z_w d_L_law cl 1487 [some (vr r0), some (vr r1), some (vr r2), some (vi x3)] [] σ5
      else
        some (vi (0 : Int32), σ5)))))))
  else
    z_g (z_kd σ r1 == 11) (z_bI (cl 139 [vr r1, vi (z_i σ r0 (x3 + (1 : Int32)).toNatClampNeg), vi (1 : Int32)] σ) (fun v8 σ7 =>
    z_g (z_at σ7 r0 20 (x3 + (1 : Int32))) (z_g (z_at σ7 r0 20 (x3 + (2 : Int32))) (if (z_i σ7 r0 (x3 + (2 : Int32)).toNatClampNeg) = 0 then
      z_g (z_kd σ7 r2 == 12) (z_bI (cl 140 [vr r2, vi (z_i σ7 r0 (x3 + (1 : Int32)).toNatClampNeg), vi (0 : Int32)] σ7) (fun v10 σ9 =>
      if v8 = v10 then
        z_w d_L_law cl 1487 [some (vr r0), some (vr r1), some (vr r2), some (vi x3)] [] σ9
      else
        some (vi (0 : Int32), σ9)))
    else
      z_g (z_kd σ7 r2 == 12) (z_bI (cl 140 [vr r2, vi (z_i σ7 r0 (x3 + (1 : Int32)).toNatClampNeg), vi (1 : Int32)] σ7) (fun v12 σ11 =>
      if v8 = v12 then
        z_w d_L_law cl 1487 [some (vr r0), some (vr r1), some (vr r2), some (vi x3)] [] σ11
      else
        some (vi (0 : Int32), σ11))))))))) := (z_w_eq _ _ _ _ _ _).trans rfl
set_option maxRecDepth 100000 in
theorem e_L_law_618 (cl : Nat → List ZV → ZM → ZR) (r0 : Nat) (r1 : Nat) (r2 : Nat) (x3 : Int32) (σ : ZM) : z_w d_L_law cl 618 [some (vr r0), some (vr r1), some (vr r2), some (vi x3)] [] σ =
  z_g (z_at σ r0 20 (x3 + (1 : Int32))) (z_g (z_kd σ r1 == 11) (z_bI (cl 154 [vr r1, vi (z_i σ r0 (x3 + (1 : Int32)).toNatClampNeg)] σ) (fun v2 σ1 =>
  z_g (z_at σ1 r0 20 (x3 + (1 : Int32))) (z_g (z_kd σ1 r2 == 12) (z_bI (cl 171 [vr r2, vi (z_i σ1 r0 (x3 + (1 : Int32)).toNatClampNeg)] σ1) (fun v4 σ3 =>
  if v2 = v4 then
    z_w d_L_law cl 1487 [some (vr r0), some (vr r1), some (vr r2), some (vi x3)] [] σ3
  else
    some (vi (0 : Int32), σ3))))))) := (z_w_eq _ _ _ _ _ _).trans rfl
set_option maxRecDepth 100000 in
theorem e_L_law_641 (cl : Nat → List ZV → ZM → ZR) (r0 : Nat) (r1 : Nat) (r2 : Nat) (x3 : Int32) (σ : ZM) : z_w d_L_law cl 641 [some (vr r0), some (vr r1), some (vr r2), some (vi x3)] [] σ =
  z_g (z_at σ r0 20 (x3 + (1 : Int32))) (z_g (z_kd σ r1 == 11) (z_bI (cl 173 [vr r1, vi (z_i σ r0 (x3 + (1 : Int32)).toNatClampNeg)] σ) (fun v2 σ1 =>
  z_g (z_at σ1 r0 20 (x3 + (1 : Int32))) (z_g (z_kd σ1 r2 == 12) (z_bI (cl 174 [vr r2, vi (z_i σ1 r0 (x3 + (1 : Int32)).toNatClampNeg)] σ1) (fun v4 σ3 =>
  if v2 = v4 then
    z_w d_L_law cl 1487 [some (vr r0), some (vr r1), some (vr r2), some (vi x3)] [] σ3
  else
    some (vi (0 : Int32), σ3))))))) := (z_w_eq _ _ _ _ _ _).trans rfl
set_option maxRecDepth 100000 in
theorem e_L_law_664 (cl : Nat → List ZV → ZM → ZR) (r0 : Nat) (r1 : Nat) (r2 : Nat) (x3 : Int32) (σ : ZM) : z_w d_L_law cl 664 [some (vr r0), some (vr r1), some (vr r2), some (vi x3)] [] σ =
  z_g (z_at σ r0 20 (x3 + (1 : Int32))) (z_g (z_kd σ r1 == 11) (z_bI (cl 176 [vr r1, vi (z_i σ r0 (x3 + (1 : Int32)).toNatClampNeg)] σ) (fun v2 σ1 =>
  z_g (z_at σ1 r0 20 (x3 + (1 : Int32))) (z_g (z_kd σ1 r2 == 12) (z_bI (cl 178 [vr r2, vi (z_i σ1 r0 (x3 + (1 : Int32)).toNatClampNeg)] σ1) (fun v4 σ3 =>
  if v2 = v4 then
    z_w d_L_law cl 1487 [some (vr r0), some (vr r1), some (vr r2), some (vi x3)] [] σ3
  else
    some (vi (0 : Int32), σ3))))))) := (z_w_eq _ _ _ _ _ _).trans rfl
set_option maxRecDepth 100000 in
theorem e_L_law_687 (cl : Nat → List ZV → ZM → ZR) (r0 : Nat) (r1 : Nat) (r2 : Nat) (x3 : Int32) (σ : ZM) : z_w d_L_law cl 687 [some (vr r0), some (vr r1), some (vr r2), some (vi x3)] [] σ =
  z_g (z_at σ r0 20 (x3 + (1 : Int32))) (z_g (z_at σ r0 20 (x3 + (2 : Int32))) (z_g (z_kd σ r1 == 11) (z_bI (cl 182 [vr r1, vi (z_i σ r0 (x3 + (1 : Int32)).toNatClampNeg), vi (z_i σ r0 (x3 + (2 : Int32)).toNatClampNeg)] σ) (fun v2 σ1 =>
  z_g (z_at σ1 r0 20 (x3 + (1 : Int32))) (z_g (z_at σ1 r0 20 (x3 + (2 : Int32))) (z_g (z_kd σ1 r2 == 12) (z_bI (cl 184 [vr r2, vi (z_i σ1 r0 (x3 + (1 : Int32)).toNatClampNeg), vi (z_i σ1 r0 (x3 + (2 : Int32)).toNatClampNeg)] σ1) (fun v4 σ3 =>
  if v2 = v4 then
    z_w d_L_law cl 1487 [some (vr r0), some (vr r1), some (vr r2), some (vi x3)] [] σ3
  else
    some (vi (0 : Int32), σ3))))))))) := (z_w_eq _ _ _ _ _ _).trans rfl
set_option maxRecDepth 100000 in
theorem e_L_law_720 (cl : Nat → List ZV → ZM → ZR) (r0 : Nat) (r1 : Nat) (r2 : Nat) (x3 : Int32) (σ : ZM) : z_w d_L_law cl 720 [some (vr r0), some (vr r1), some (vr r2), some (vi x3)] [] σ =
  z_g (z_kd σ r1 == 11) (z_bI (cl 187 [vr r1] σ) (fun v2 σ1 =>
  z_g (z_kd σ1 r2 == 12) (z_bI (cl 188 [vr r2] σ1) (fun v4 σ3 =>
  if v2 = v4 then
    z_w d_L_law cl 1487 [some (vr r0), some (vr r1), some (vr r2), some (vi x3)] [] σ3
  else
    some (vi (0 : Int32), σ3))))) := (z_w_eq _ _ _ _ _ _).trans rfl
set_option maxRecDepth 100000 in
theorem e_L_law_733 (cl : Nat → List ZV → ZM → ZR) (r0 : Nat) (r1 : Nat) (r2 : Nat) (x3 : Int32) (σ : ZM) : z_w d_L_law cl 733 [some (vr r0), some (vr r1), some (vr r2), some (vi x3)] [] σ =
  z_g (z_at σ r0 20 (x3 + (1 : Int32))) (z_g (z_at σ r0 20 (x3 + (2 : Int32))) (z_g (z_kd σ r1 == 11) (z_bI (cl 193 [vr r1, vi (z_i σ r0 (x3 + (1 : Int32)).toNatClampNeg), vi (z_i σ r0 (x3 + (2 : Int32)).toNatClampNeg)] σ) (fun v2 σ1 =>
  z_g (z_at σ1 r0 20 (x3 + (1 : Int32))) (z_g (z_at σ1 r0 20 (x3 + (2 : Int32))) (z_g (z_kd σ1 r2 == 12) (z_bI (cl 196 [vr r2, vi (z_i σ1 r0 (x3 + (1 : Int32)).toNatClampNeg), vi (z_i σ1 r0 (x3 + (2 : Int32)).toNatClampNeg)] σ1) (fun v4 σ3 =>
  if v2 = v4 then
    z_w d_L_law cl 1487 [some (vr r0), some (vr r1), some (vr r2), some (vi x3)] [] σ3
  else
    some (vi (0 : Int32), σ3))))))))) := (z_w_eq _ _ _ _ _ _).trans rfl
set_option maxRecDepth 100000 in
theorem e_L_law_766 (cl : Nat → List ZV → ZM → ZR) (r0 : Nat) (r1 : Nat) (r2 : Nat) (x3 : Int32) (σ : ZM) : z_w d_L_law cl 766 [some (vr r0), some (vr r1), some (vr r2), some (vi x3)] [] σ =
  z_g (z_at σ r0 20 (x3 + (1 : Int32))) (z_g (z_at σ r0 20 (x3 + (2 : Int32))) (z_g (z_kd σ r1 == 11) (z_bI (cl 197 [vr r1, vi (z_i σ r0 (x3 + (1 : Int32)).toNatClampNeg), vi (z_i σ r0 (x3 + (2 : Int32)).toNatClampNeg)] σ) (fun v2 σ1 =>
  z_g (z_at σ1 r0 20 (x3 + (1 : Int32))) (z_g (z_at σ1 r0 20 (x3 + (2 : Int32))) (z_g (z_kd σ1 r2 == 12) (z_bI (cl 198 [vr r2, vi (z_i σ1 r0 (x3 + (1 : Int32)).toNatClampNeg), vi (z_i σ1 r0 (x3 + (2 : Int32)).toNatClampNeg)] σ1) (fun v4 σ3 =>
  if v2 = v4 then
    z_w d_L_law cl 1487 [some (vr r0), some (vr r1), some (vr r2), some (vi x3)] [] σ3
  else
    some (vi (0 : Int32), σ3))))))))) := (z_w_eq _ _ _ _ _ _).trans rfl
set_option maxRecDepth 100000 in
theorem e_L_law_799 (cl : Nat → List ZV → ZM → ZR) (r0 : Nat) (r1 : Nat) (r2 : Nat) (x3 : Int32) (σ : ZM) : z_w d_L_law cl 799 [some (vr r0), some (vr r1), some (vr r2), some (vi x3)] [] σ =
  z_g (z_at σ r0 20 (x3 + (1 : Int32))) (z_g (z_at σ r0 20 (x3 + (2 : Int32))) (z_g (z_kd σ r1 == 11) (z_bI (cl 204 [vr r1, vi (z_i σ r0 (x3 + (1 : Int32)).toNatClampNeg), vi (z_i σ r0 (x3 + (2 : Int32)).toNatClampNeg)] σ) (fun v2 σ1 =>
  z_g (z_at σ1 r0 20 (x3 + (1 : Int32))) (z_g (z_at σ1 r0 20 (x3 + (2 : Int32))) (z_g (z_kd σ1 r2 == 12) (z_bI (cl 209 [vr r2, vi (z_i σ1 r0 (x3 + (1 : Int32)).toNatClampNeg), vi (z_i σ1 r0 (x3 + (2 : Int32)).toNatClampNeg)] σ1) (fun v4 σ3 =>
  if v2 = v4 then
    z_w d_L_law cl 1487 [some (vr r0), some (vr r1), some (vr r2), some (vi x3)] [] σ3
  else
    some (vi (0 : Int32), σ3))))))))) := (z_w_eq _ _ _ _ _ _).trans rfl
set_option maxRecDepth 100000 in
theorem e_L_law_832 (cl : Nat → List ZV → ZM → ZR) (r0 : Nat) (r1 : Nat) (r2 : Nat) (x3 : Int32) (σ : ZM) : z_w d_L_law cl 832 [some (vr r0), some (vr r1), some (vr r2), some (vi x3)] [] σ =
  z_g (z_at σ r0 20 (x3 + (1 : Int32))) (z_g (z_kd σ r1 == 11) (z_bI (cl 210 [vr r1, vi (z_i σ r0 (x3 + (1 : Int32)).toNatClampNeg)] σ) (fun v2 σ1 =>
  z_g (z_at σ1 r0 20 (x3 + (1 : Int32))) (z_g (z_kd σ1 r2 == 12) (z_bI (cl 211 [vr r2, vi (z_i σ1 r0 (x3 + (1 : Int32)).toNatClampNeg)] σ1) (fun v4 σ3 =>
  if v2 = v4 then
    z_w d_L_law cl 1487 [some (vr r0), some (vr r1), some (vr r2), some (vi x3)] [] σ3
  else
    some (vi (0 : Int32), σ3))))))) := (z_w_eq _ _ _ _ _ _).trans rfl
set_option maxRecDepth 100000 in
theorem e_L_law_855 (cl : Nat → List ZV → ZM → ZR) (r0 : Nat) (r1 : Nat) (r2 : Nat) (x3 : Int32) (σ : ZM) : z_w d_L_law cl 855 [some (vr r0), some (vr r1), some (vr r2), some (vi x3)] [] σ =
  z_g (z_at σ r0 20 (x3 + (1 : Int32))) (z_g (z_at σ r0 20 (x3 + (2 : Int32))) (z_g (z_kd σ r1 == 11) (z_bI (cl 212 [vr r1, vi (z_i σ r0 (x3 + (1 : Int32)).toNatClampNeg), vi (z_i σ r0 (x3 + (2 : Int32)).toNatClampNeg)] σ) (fun v2 σ1 =>
  z_g (z_at σ1 r0 20 (x3 + (1 : Int32))) (z_g (z_at σ1 r0 20 (x3 + (2 : Int32))) (z_g (z_kd σ1 r2 == 12) (z_bI (cl 213 [vr r2, vi (z_i σ1 r0 (x3 + (1 : Int32)).toNatClampNeg), vi (z_i σ1 r0 (x3 + (2 : Int32)).toNatClampNeg)] σ1) (fun v4 σ3 =>
  if v2 = v4 then
    z_w d_L_law cl 1487 [some (vr r0), some (vr r1), some (vr r2), some (vi x3)] [] σ3
  else
    some (vi (0 : Int32), σ3))))))))) := (z_w_eq _ _ _ _ _ _).trans rfl
set_option maxRecDepth 100000 in
theorem e_L_law_888 (cl : Nat → List ZV → ZM → ZR) (r0 : Nat) (r1 : Nat) (r2 : Nat) (x3 : Int32) (σ : ZM) : z_w d_L_law cl 888 [some (vr r0), some (vr r1), some (vr r2), some (vi x3)] [] σ =
  z_g (z_kd σ r1 == 11) (z_bI (cl 217 [vr r1] σ) (fun v2 σ1 =>
  z_g (z_kd σ1 r2 == 12) (z_bI (cl 219 [vr r2] σ1) (fun v4 σ3 =>
  if v2 = v4 then
    z_w d_L_law cl 1487 [some (vr r0), some (vr r1), some (vr r2), some (vi x3)] [] σ3
  else
    some (vi (0 : Int32), σ3))))) := (z_w_eq _ _ _ _ _ _).trans rfl
set_option maxRecDepth 100000 in
theorem e_L_law_901 (cl : Nat → List ZV → ZM → ZR) (r0 : Nat) (r1 : Nat) (r2 : Nat) (x3 : Int32) (σ : ZM) : z_w d_L_law cl 901 [some (vr r0), some (vr r1), some (vr r2), some (vi x3)] [] σ =
  z_g (z_at σ r0 20 (x3 + (1 : Int32))) (z_g (z_kd σ r1 == 11) (z_bI (cl 224 [vr r1, vi (z_i σ r0 (x3 + (1 : Int32)).toNatClampNeg)] σ) (fun v2 σ1 =>
  z_g (z_at σ1 r0 20 (x3 + (1 : Int32))) (z_g (z_kd σ1 r2 == 12) (z_bI (cl 227 [vr r2, vi (z_i σ1 r0 (x3 + (1 : Int32)).toNatClampNeg)] σ1) (fun v4 σ3 =>
  if v2 = v4 then
    z_w d_L_law cl 1487 [some (vr r0), some (vr r1), some (vr r2), some (vi x3)] [] σ3
  else
    some (vi (0 : Int32), σ3))))))) := (z_w_eq _ _ _ _ _ _).trans rfl
set_option maxRecDepth 100000 in
theorem e_L_law_924 (cl : Nat → List ZV → ZM → ZR) (r0 : Nat) (r1 : Nat) (r2 : Nat) (x3 : Int32) (σ : ZM) : z_w d_L_law cl 924 [some (vr r0), some (vr r1), some (vr r2), some (vi x3)] [] σ =
  z_g (z_at σ r0 20 (x3 + (1 : Int32))) (z_g (z_at σ r0 20 (x3 + (2 : Int32))) (z_g (z_kd σ r1 == 11) (z_bI (cl 230 [vr r1, vi (z_i σ r0 (x3 + (1 : Int32)).toNatClampNeg), vi (z_i σ r0 (x3 + (2 : Int32)).toNatClampNeg)] σ) (fun v2 σ1 =>
  z_g (z_at σ1 r0 20 (x3 + (1 : Int32))) (z_g (z_at σ1 r0 20 (x3 + (2 : Int32))) (z_g (z_kd σ1 r2 == 12) (z_bI (cl 232 [vr r2, vi (z_i σ1 r0 (x3 + (1 : Int32)).toNatClampNeg), vi (z_i σ1 r0 (x3 + (2 : Int32)).toNatClampNeg)] σ1) (fun v4 σ3 =>
  if v2 = v4 then
    z_w d_L_law cl 1487 [some (vr r0), some (vr r1), some (vr r2), some (vi x3)] [] σ3
  else
    some (vi (0 : Int32), σ3))))))))) := (z_w_eq _ _ _ _ _ _).trans rfl
set_option maxRecDepth 100000 in
theorem e_L_law_957 (cl : Nat → List ZV → ZM → ZR) (r0 : Nat) (r1 : Nat) (r2 : Nat) (x3 : Int32) (σ : ZM) : z_w d_L_law cl 957 [some (vr r0), some (vr r1), some (vr r2), some (vi x3)] [] σ =
  z_g (z_at σ r0 20 (x3 + (1 : Int32))) (z_g (z_at σ r0 20 (x3 + (2 : Int32))) (z_g (z_at σ r0 20 (x3 + (3 : Int32))) (z_g (z_kd σ r1 == 11) (z_bI (cl 246 [vr r1, vi (z_i σ r0 (x3 + (1 : Int32)).toNatClampNeg), vi (z_i σ r0 (x3 + (2 : Int32)).toNatClampNeg), vi (z_i σ r0 (x3 + (3 : Int32)).toNatClampNeg)] σ) (fun v2 σ1 =>
  z_g (z_at σ1 r0 20 (x3 + (1 : Int32))) (z_g (z_at σ1 r0 20 (x3 + (2 : Int32))) (z_g (z_at σ1 r0 20 (x3 + (3 : Int32))) (z_g (z_kd σ1 r2 == 12) (z_bI (cl 253 [vr r2, vi (z_i σ1 r0 (x3 + (1 : Int32)).toNatClampNeg), vi (z_i σ1 r0 (x3 + (2 : Int32)).toNatClampNeg), vi (z_i σ1 r0 (x3 + (3 : Int32)).toNatClampNeg)] σ1) (fun v4 σ3 =>
  if v2 = v4 then
    z_w d_L_law cl 1487 [some (vr r0), some (vr r1), some (vr r2), some (vi x3)] [] σ3
  else
    some (vi (0 : Int32), σ3))))))))))) := (z_w_eq _ _ _ _ _ _).trans rfl
set_option maxRecDepth 100000 in
theorem e_L_law_1000 (cl : Nat → List ZV → ZM → ZR) (r0 : Nat) (r1 : Nat) (r2 : Nat) (x3 : Int32) (σ : ZM) : z_w d_L_law cl 1000 [some (vr r0), some (vr r1), some (vr r2), some (vi x3)] [] σ =
  z_g (z_at σ r0 20 (x3 + (1 : Int32))) (z_g (z_kd σ r1 == 11) (z_bI (cl 258 [vr r1, vi (z_i σ r0 (x3 + (1 : Int32)).toNatClampNeg)] σ) (fun v2 σ1 =>
  z_g (z_at σ1 r0 20 (x3 + (1 : Int32))) (z_g (z_kd σ1 r2 == 12) (z_bI (cl 259 [vr r2, vi (z_i σ1 r0 (x3 + (1 : Int32)).toNatClampNeg)] σ1) (fun v4 σ3 =>
  if v2 = v4 then
    z_w d_L_law cl 1487 [some (vr r0), some (vr r1), some (vr r2), some (vi x3)] [] σ3
  else
    some (vi (0 : Int32), σ3))))))) := (z_w_eq _ _ _ _ _ _).trans rfl
set_option maxRecDepth 100000 in
theorem e_L_law_1023 (cl : Nat → List ZV → ZM → ZR) (r0 : Nat) (r1 : Nat) (r2 : Nat) (x3 : Int32) (σ : ZM) : z_w d_L_law cl 1023 [some (vr r0), some (vr r1), some (vr r2), some (vi x3)] [] σ =
  z_g (z_kd σ r1 == 11) (z_bI (cl 263 [vr r1] σ) (fun v2 σ1 =>
  z_g (z_kd σ1 r2 == 12) (z_bI (cl 264 [vr r2] σ1) (fun v4 σ3 =>
  if v2 = v4 then
    z_w d_L_law cl 1487 [some (vr r0), some (vr r1), some (vr r2), some (vi x3)] [] σ3
  else
    some (vi (0 : Int32), σ3))))) := (z_w_eq _ _ _ _ _ _).trans rfl
set_option maxRecDepth 100000 in
theorem e_L_law_1036 (cl : Nat → List ZV → ZM → ZR) (r0 : Nat) (r1 : Nat) (r2 : Nat) (x3 : Int32) (σ : ZM) : z_w d_L_law cl 1036 [some (vr r0), some (vr r1), some (vr r2), some (vi x3)] [] σ =
  z_g (z_at σ r0 20 (x3 + (1 : Int32))) (if (z_i σ r0 (x3 + (1 : Int32)).toNatClampNeg) = 0 then
    z_g (z_kd σ r1 == 11) (z_bI (cl 267 [vr r1, vi (0 : Int32)] σ) (fun v2 σ1 =>
    z_g (z_at σ1 r0 20 (x3 + (1 : Int32))) (if (z_i σ1 r0 (x3 + (1 : Int32)).toNatClampNeg) = 0 then
      z_g (z_kd σ1 r2 == 12) (z_bI (cl 268 [vr r2, vi (0 : Int32)] σ1) (fun v4 σ3 =>
      if v2 = v4 then
        z_w d_L_law cl 1487 [some (vr r0), some (vr r1), some (vr r2), some (vi x3)] [] σ3
      else
        some (vi (0 : Int32), σ3)))
    else
      z_g (z_kd σ1 r2 == 12) (z_bI (cl 268 [vr r2, vi (1 : Int32)] σ1) (fun v6 σ5 =>
      if v2 = v6 then
        z_w d_L_law cl 1487 [some (vr r0), some (vr r1), some (vr r2), some (vi x3)] [] σ5
      else
        some (vi (0 : Int32), σ5))))))
  else
    z_g (z_kd σ r1 == 11) (z_bI (cl 267 [vr r1, vi (1 : Int32)] σ) (fun v8 σ7 =>
    z_g (z_at σ7 r0 20 (x3 + (1 : Int32))) (if (z_i σ7 r0 (x3 + (1 : Int32)).toNatClampNeg) = 0 then
      z_g (z_kd σ7 r2 == 12) (z_bI (cl 268 [vr r2, vi (0 : Int32)] σ7) (fun v10 σ9 =>
      if v8 = v10 then
        z_w d_L_law cl 1487 [some (vr r0), some (vr r1), some (vr r2), some (vi x3)] [] σ9
      else
        some (vi (0 : Int32), σ9)))
    else
      z_g (z_kd σ7 r2 == 12) (z_bI (cl 268 [vr r2, vi (1 : Int32)] σ7) (fun v12 σ11 =>
      if v8 = v12 then
        z_w d_L_law cl 1487 [some (vr r0), some (vr r1), some (vr r2), some (vi x3)] [] σ11
      else
        some (vi (0 : Int32), σ11))))))) := (z_w_eq _ _ _ _ _ _).trans rfl
set_option maxRecDepth 100000 in
theorem e_L_law_1075 (cl : Nat → List ZV → ZM → ZR) (r0 : Nat) (r1 : Nat) (r2 : Nat) (x3 : Int32) (σ : ZM) : z_w d_L_law cl 1075 [some (vr r0), some (vr r1), some (vr r2), some (vi x3)] [] σ =
  z_g (z_at σ r0 20 (x3 + (1 : Int32))) (z_g (z_kd σ r1 == 11) (z_bI (cl 271 [vr r1, vi (z_i σ r0 (x3 + (1 : Int32)).toNatClampNeg)] σ) (fun v2 σ1 =>
  z_g (z_at σ1 r0 20 (x3 + (1 : Int32))) (z_g (z_kd σ1 r2 == 12) (z_bI (cl 273 [vr r2, vi (z_i σ1 r0 (x3 + (1 : Int32)).toNatClampNeg)] σ1) (fun v4 σ3 =>
  if v2 = v4 then
    z_w d_L_law cl 1487 [some (vr r0), some (vr r1), some (vr r2), some (vi x3)] [] σ3
  else
    some (vi (0 : Int32), σ3))))))) := (z_w_eq _ _ _ _ _ _).trans rfl
set_option maxRecDepth 100000 in
theorem e_L_law_1098 (cl : Nat → List ZV → ZM → ZR) (r0 : Nat) (r1 : Nat) (r2 : Nat) (x3 : Int32) (σ : ZM) : z_w d_L_law cl 1098 [some (vr r0), some (vr r1), some (vr r2), some (vi x3)] [] σ =
  z_g (z_kd σ r1 == 11) (z_bI (cl 275 [vr r1] σ) (fun v2 σ1 =>
  z_g (z_kd σ1 r2 == 12) (z_bI (cl 276 [vr r2] σ1) (fun v4 σ3 =>
  if v2 = v4 then
    z_w d_L_law cl 1487 [some (vr r0), some (vr r1), some (vr r2), some (vi x3)] [] σ3
  else
    some (vi (0 : Int32), σ3))))) := (z_w_eq _ _ _ _ _ _).trans rfl
set_option maxRecDepth 100000 in
theorem e_L_law_1111 (cl : Nat → List ZV → ZM → ZR) (r0 : Nat) (r1 : Nat) (r2 : Nat) (x3 : Int32) (σ : ZM) : z_w d_L_law cl 1111 [some (vr r0), some (vr r1), some (vr r2), some (vi x3)] [] σ =
  z_g (z_at σ r0 20 (x3 + (1 : Int32))) (z_g (z_at σ r0 20 (x3 + (2 : Int32))) (z_g (z_at σ r0 20 (x3 + (3 : Int32))) (if (z_i σ r0 (x3 + (3 : Int32)).toNatClampNeg) = 0 then
    z_g (z_kd σ r1 == 11) (z_bL (cl 280 [vr r1, vi (z_i σ r0 (x3 + (1 : Int32)).toNatClampNeg), vi (z_i σ r0 (x3 + (2 : Int32)).toNatClampNeg), vi (0 : Int32)] σ) (fun v2 σ1 =>
    z_g (z_at σ1 r0 20 (x3 + (1 : Int32))) (z_g (z_at σ1 r0 20 (x3 + (2 : Int32))) (z_g (z_at σ1 r0 20 (x3 + (3 : Int32))) (if (z_i σ1 r0 (x3 + (3 : Int32)).toNatClampNeg) = 0 then
      z_g (z_kd σ1 r2 == 12) (z_bL (cl 282 [vr r2, vi (z_i σ1 r0 (x3 + (1 : Int32)).toNatClampNeg), vi (z_i σ1 r0 (x3 + (2 : Int32)).toNatClampNeg), vi (0 : Int32)] σ1) (fun v4 σ3 =>
      if (lg_cmp v2 v4) = 0 then
        z_w d_L_law cl 1487 [some (vr r0), some (vr r1), some (vr r2), some (vi x3)] [] σ3
      else
        some (vi (0 : Int32), σ3)))
    else
      z_g (z_kd σ1 r2 == 12) (z_bL (cl 282 [vr r2, vi (z_i σ1 r0 (x3 + (1 : Int32)).toNatClampNeg), vi (z_i σ1 r0 (x3 + (2 : Int32)).toNatClampNeg), vi (1 : Int32)] σ1) (fun v6 σ5 =>
      if (lg_cmp v2 v6) = 0 then
        z_w d_L_law cl 1487 [some (vr r0), some (vr r1), some (vr r2), some (vi x3)] [] σ5
      else
        some (vi (0 : Int32), σ5))))))))
  else
    z_g (z_kd σ r1 == 11) (z_bL (cl 280 [vr r1, vi (z_i σ r0 (x3 + (1 : Int32)).toNatClampNeg), vi (z_i σ r0 (x3 + (2 : Int32)).toNatClampNeg), vi (1 : Int32)] σ) (fun v8 σ7 =>
    z_g (z_at σ7 r0 20 (x3 + (1 : Int32))) (z_g (z_at σ7 r0 20 (x3 + (2 : Int32))) (z_g (z_at σ7 r0 20 (x3 + (3 : Int32))) (if (z_i σ7 r0 (x3 + (3 : Int32)).toNatClampNeg) = 0 then
      z_g (z_kd σ7 r2 == 12) (z_bL (cl 282 [vr r2, vi (z_i σ7 r0 (x3 + (1 : Int32)).toNatClampNeg), vi (z_i σ7 r0 (x3 + (2 : Int32)).toNatClampNeg), vi (0 : Int32)] σ7) (fun v10 σ9 =>
      if (lg_cmp v8 v10) = 0 then
        z_w d_L_law cl 1487 [some (vr r0), some (vr r1), some (vr r2), some (vi x3)] [] σ9
      else
        some (vi (0 : Int32), σ9)))
    else
      z_g (z_kd σ7 r2 == 12) (z_bL (cl 282 [vr r2, vi (z_i σ7 r0 (x3 + (1 : Int32)).toNatClampNeg), vi (z_i σ7 r0 (x3 + (2 : Int32)).toNatClampNeg), vi (1 : Int32)] σ7) (fun v12 σ11 =>
      if (lg_cmp v8 v12) = 0 then
        z_w d_L_law cl 1487 [some (vr r0), some (vr r1), some (vr r2), some (vi x3)] [] σ11
      else
        some (vi (0 : Int32), σ11))))))))))) := (z_w_eq _ _ _ _ _ _).trans rfl
set_option maxRecDepth 100000 in
theorem e_L_law_1171 (cl : Nat → List ZV → ZM → ZR) (r0 : Nat) (r1 : Nat) (r2 : Nat) (x3 : Int32) (σ : ZM) : z_w d_L_law cl 1171 [some (vr r0), some (vr r1), some (vr r2), some (vi x3)] [] σ =
  z_g (z_at σ r0 20 (x3 + (1 : Int32))) (z_g (z_at σ r0 20 (x3 + (2 : Int32))) (z_g (z_kd σ r1 == 11) (z_bI (cl 284 [vr r1, vi (z_i σ r0 (x3 + (1 : Int32)).toNatClampNeg), vi (z_i σ r0 (x3 + (2 : Int32)).toNatClampNeg)] σ) (fun v2 σ1 =>
  z_g (z_at σ1 r0 20 (x3 + (1 : Int32))) (z_g (z_at σ1 r0 20 (x3 + (2 : Int32))) (z_g (z_kd σ1 r2 == 12) (z_bI (cl 285 [vr r2, vi (z_i σ1 r0 (x3 + (1 : Int32)).toNatClampNeg), vi (z_i σ1 r0 (x3 + (2 : Int32)).toNatClampNeg)] σ1) (fun v4 σ3 =>
  if v2 = v4 then
    z_w d_L_law cl 1487 [some (vr r0), some (vr r1), some (vr r2), some (vi x3)] [] σ3
  else
    some (vi (0 : Int32), σ3))))))))) := (z_w_eq _ _ _ _ _ _).trans rfl
set_option maxRecDepth 100000 in
theorem e_L_law_1204 (cl : Nat → List ZV → ZM → ZR) (r0 : Nat) (r1 : Nat) (r2 : Nat) (x3 : Int32) (σ : ZM) : z_w d_L_law cl 1204 [some (vr r0), some (vr r1), some (vr r2), some (vi x3)] [] σ =
  z_g (z_at σ r0 20 (x3 + (1 : Int32))) (z_g (z_at σ r0 20 (x3 + (2 : Int32))) (z_g (z_at σ r0 20 (x3 + (3 : Int32))) (z_g (z_at σ r0 20 (x3 + (4 : Int32))) (if (z_i σ r0 (x3 + (4 : Int32)).toNatClampNeg) = 0 then
    z_g (z_kd σ r1 == 11) (z_bI (cl 290 [vr r1, vi (z_i σ r0 (x3 + (1 : Int32)).toNatClampNeg), vi (z_i σ r0 (x3 + (2 : Int32)).toNatClampNeg), vi (z_i σ r0 (x3 + (3 : Int32)).toNatClampNeg), vi (0 : Int32)] σ) (fun v2 σ1 =>
    z_g (z_at σ1 r0 20 (x3 + (1 : Int32))) (z_g (z_at σ1 r0 20 (x3 + (2 : Int32))) (z_g (z_at σ1 r0 20 (x3 + (3 : Int32))) (z_g (z_at σ1 r0 20 (x3 + (4 : Int32))) (if (z_i σ1 r0 (x3 + (4 : Int32)).toNatClampNeg) = 0 then
      z_g (z_kd σ1 r2 == 12) (z_bI (cl 294 [vr r2, vi (z_i σ1 r0 (x3 + (1 : Int32)).toNatClampNeg), vi (z_i σ1 r0 (x3 + (2 : Int32)).toNatClampNeg), vi (z_i σ1 r0 (x3 + (3 : Int32)).toNatClampNeg), vi (0 : Int32)] σ1) (fun v4 σ3 =>
      if v2 = v4 then
        z_w d_L_law cl 1487 [some (vr r0), some (vr r1), some (vr r2), some (vi x3)] [] σ3
      else
        some (vi (0 : Int32), σ3)))
    else
      z_g (z_kd σ1 r2 == 12) (z_bI (cl 294 [vr r2, vi (z_i σ1 r0 (x3 + (1 : Int32)).toNatClampNeg), vi (z_i σ1 r0 (x3 + (2 : Int32)).toNatClampNeg), vi (z_i σ1 r0 (x3 + (3 : Int32)).toNatClampNeg), vi (1 : Int32)] σ1) (fun v6 σ5 =>
      if v2 = v6 then
        z_w d_L_law cl 1487 [some (vr r0), some (vr r1), some (vr r2), some (vi x3)] [] σ5
      else
        some (vi (0 : Int32), σ5)))))))))
  else
    z_g (z_kd σ r1 == 11) (z_bI (cl 290 [vr r1, vi (z_i σ r0 (x3 + (1 : Int32)).toNatClampNeg), vi (z_i σ r0 (x3 + (2 : Int32)).toNatClampNeg), vi (z_i σ r0 (x3 + (3 : Int32)).toNatClampNeg), vi (1 : Int32)] σ) (fun v8 σ7 =>
    z_g (z_at σ7 r0 20 (x3 + (1 : Int32))) (z_g (z_at σ7 r0 20 (x3 + (2 : Int32))) (z_g (z_at σ7 r0 20 (x3 + (3 : Int32))) (z_g (z_at σ7 r0 20 (x3 + (4 : Int32))) (if (z_i σ7 r0 (x3 + (4 : Int32)).toNatClampNeg) = 0 then
      z_g (z_kd σ7 r2 == 12) (z_bI (cl 294 [vr r2, vi (z_i σ7 r0 (x3 + (1 : Int32)).toNatClampNeg), vi (z_i σ7 r0 (x3 + (2 : Int32)).toNatClampNeg), vi (z_i σ7 r0 (x3 + (3 : Int32)).toNatClampNeg), vi (0 : Int32)] σ7) (fun v10 σ9 =>
      if v8 = v10 then
        z_w d_L_law cl 1487 [some (vr r0), some (vr r1), some (vr r2), some (vi x3)] [] σ9
      else
        some (vi (0 : Int32), σ9)))
    else
      z_g (z_kd σ7 r2 == 12) (z_bI (cl 294 [vr r2, vi (z_i σ7 r0 (x3 + (1 : Int32)).toNatClampNeg), vi (z_i σ7 r0 (x3 + (2 : Int32)).toNatClampNeg), vi (z_i σ7 r0 (x3 + (3 : Int32)).toNatClampNeg), vi (1 : Int32)] σ7) (fun v12 σ11 =>
      if v8 = v12 then
        z_w d_L_law cl 1487 [some (vr r0), some (vr r1), some (vr r2), some (vi x3)] [] σ11
      else
        some (vi (0 : Int32), σ11))))))))))))) := (z_w_eq _ _ _ _ _ _).trans rfl
set_option maxRecDepth 100000 in
theorem e_L_law_1273 (cl : Nat → List ZV → ZM → ZR) (r0 : Nat) (r1 : Nat) (r2 : Nat) (x3 : Int32) (σ : ZM) : z_w d_L_law cl 1273 [some (vr r0), some (vr r1), some (vr r2), some (vi x3)] [] σ =
  z_g (z_at σ r0 20 (x3 + (1 : Int32))) (z_g (z_at σ r0 20 (x3 + (2 : Int32))) (z_g (z_kd σ r1 == 11) (z_bI (cl 296 [vr r1, vi (z_i σ r0 (x3 + (1 : Int32)).toNatClampNeg), vi (z_i σ r0 (x3 + (2 : Int32)).toNatClampNeg)] σ) (fun v2 σ1 =>
  z_g (z_at σ1 r0 20 (x3 + (1 : Int32))) (z_g (z_at σ1 r0 20 (x3 + (2 : Int32))) (z_g (z_kd σ1 r2 == 12) (z_bI (cl 297 [vr r2, vi (z_i σ1 r0 (x3 + (1 : Int32)).toNatClampNeg), vi (z_i σ1 r0 (x3 + (2 : Int32)).toNatClampNeg)] σ1) (fun v4 σ3 =>
  if v2 = v4 then
    z_w d_L_law cl 1487 [some (vr r0), some (vr r1), some (vr r2), some (vi x3)] [] σ3
  else
    some (vi (0 : Int32), σ3))))))))) := (z_w_eq _ _ _ _ _ _).trans rfl
set_option maxRecDepth 100000 in
theorem e_L_law_1306 (cl : Nat → List ZV → ZM → ZR) (r0 : Nat) (r1 : Nat) (r2 : Nat) (x3 : Int32) (σ : ZM) : z_w d_L_law cl 1306 [some (vr r0), some (vr r1), some (vr r2), some (vi x3)] [] σ =
  z_g (z_at σ r0 20 (x3 + (1 : Int32))) (z_g (z_at σ r0 20 (x3 + (2 : Int32))) (z_g (z_at σ r0 20 (x3 + (3 : Int32))) (z_g (z_kd σ r1 == 11) (z_bI (cl 300 [vr r1, vi (z_i σ r0 (x3 + (1 : Int32)).toNatClampNeg), vi (z_i σ r0 (x3 + (2 : Int32)).toNatClampNeg), vi (z_i σ r0 (x3 + (3 : Int32)).toNatClampNeg)] σ) (fun v2 σ1 =>
  z_g (z_at σ1 r0 20 (x3 + (1 : Int32))) (z_g (z_at σ1 r0 20 (x3 + (2 : Int32))) (z_g (z_at σ1 r0 20 (x3 + (3 : Int32))) (z_g (z_kd σ1 r2 == 12) (z_bI (cl 303 [vr r2, vi (z_i σ1 r0 (x3 + (1 : Int32)).toNatClampNeg), vi (z_i σ1 r0 (x3 + (2 : Int32)).toNatClampNeg), vi (z_i σ1 r0 (x3 + (3 : Int32)).toNatClampNeg)] σ1) (fun v4 σ3 =>
  if v2 = v4 then
    z_w d_L_law cl 1487 [some (vr r0), some (vr r1), some (vr r2), some (vi x3)] [] σ3
  else
    some (vi (0 : Int32), σ3))))))))))) := (z_w_eq _ _ _ _ _ _).trans rfl
set_option maxRecDepth 100000 in
theorem e_L_law_1349 (cl : Nat → List ZV → ZM → ZR) (r0 : Nat) (r1 : Nat) (r2 : Nat) (x3 : Int32) (σ : ZM) : z_w d_L_law cl 1349 [some (vr r0), some (vr r1), some (vr r2), some (vi x3)] [] σ =
  z_g (z_at σ r0 20 (x3 + (1 : Int32))) (z_g (z_kd σ r1 == 11) (z_bI (cl 305 [vr r1, vi (z_i σ r0 (x3 + (1 : Int32)).toNatClampNeg)] σ) (fun v2 σ1 =>
  z_g (z_at σ1 r0 20 (x3 + (1 : Int32))) (z_g (z_kd σ1 r2 == 12) (z_bI (cl 306 [vr r2, vi (z_i σ1 r0 (x3 + (1 : Int32)).toNatClampNeg)] σ1) (fun v4 σ3 =>
  if v2 = v4 then
    z_w d_L_law cl 1487 [some (vr r0), some (vr r1), some (vr r2), some (vi x3)] [] σ3
  else
    some (vi (0 : Int32), σ3))))))) := (z_w_eq _ _ _ _ _ _).trans rfl
set_option maxRecDepth 100000 in
theorem e_L_law_1372 (cl : Nat → List ZV → ZM → ZR) (r0 : Nat) (r1 : Nat) (r2 : Nat) (x3 : Int32) (σ : ZM) : z_w d_L_law cl 1372 [some (vr r0), some (vr r1), some (vr r2), some (vi x3)] [] σ =
  z_g (z_at σ r0 20 (x3 + (1 : Int32))) (z_g (z_at σ r0 20 (x3 + (2 : Int32))) (z_g (z_at σ r0 20 (x3 + (3 : Int32))) (z_g (z_kd σ r1 == 11) (z_bI (cl 308 [vr r1, vi (z_i σ r0 (x3 + (1 : Int32)).toNatClampNeg), vi (z_i σ r0 (x3 + (2 : Int32)).toNatClampNeg), vi (z_i σ r0 (x3 + (3 : Int32)).toNatClampNeg)] σ) (fun v2 σ1 =>
  z_g (z_at σ1 r0 20 (x3 + (1 : Int32))) (z_g (z_at σ1 r0 20 (x3 + (2 : Int32))) (z_g (z_at σ1 r0 20 (x3 + (3 : Int32))) (z_g (z_kd σ1 r2 == 12) (z_bI (cl 309 [vr r2, vi (z_i σ1 r0 (x3 + (1 : Int32)).toNatClampNeg), vi (z_i σ1 r0 (x3 + (2 : Int32)).toNatClampNeg), vi (z_i σ1 r0 (x3 + (3 : Int32)).toNatClampNeg)] σ1) (fun v4 σ3 =>
  if v2 = v4 then
    z_w d_L_law cl 1487 [some (vr r0), some (vr r1), some (vr r2), some (vi x3)] [] σ3
  else
    some (vi (0 : Int32), σ3))))))))))) := (z_w_eq _ _ _ _ _ _).trans rfl
set_option maxRecDepth 100000 in
theorem e_L_law_1415 (cl : Nat → List ZV → ZM → ZR) (r0 : Nat) (r1 : Nat) (r2 : Nat) (x3 : Int32) (σ : ZM) : z_w d_L_law cl 1415 [some (vr r0), some (vr r1), some (vr r2), some (vi x3)] [] σ =
  z_g (z_at σ r0 20 (x3 + (1 : Int32))) (z_g (z_kd σ r1 == 11) (z_bI (cl 313 [vr r1, vi (z_i σ r0 (x3 + (1 : Int32)).toNatClampNeg)] σ) (fun v2 σ1 =>
  z_g (z_at σ1 r0 20 (x3 + (1 : Int32))) (z_g (z_kd σ1 r2 == 12) (z_bI (cl 315 [vr r2, vi (z_i σ1 r0 (x3 + (1 : Int32)).toNatClampNeg)] σ1) (fun v4 σ3 =>
  if v2 = v4 then
    z_w d_L_law cl 1487 [some (vr r0), some (vr r1), some (vr r2), some (vi x3)] [] σ3
  else
    some (vi (0 : Int32), σ3))))))) := (z_w_eq _ _ _ _ _ _).trans rfl
set_option maxRecDepth 100000 in
theorem e_L_law_1438 (cl : Nat → List ZV → ZM → ZR) (r0 : Nat) (r1 : Nat) (r2 : Nat) (x3 : Int32) (σ : ZM) : z_w d_L_law cl 1438 [some (vr r0), some (vr r1), some (vr r2), some (vi x3)] [] σ =
  z_g (z_kd σ r1 == 11) (z_bI (cl 320 [vr r1] σ) (fun v2 σ1 =>
  z_g (z_kd σ1 r2 == 12) (z_bI (cl 321 [vr r2] σ1) (fun v4 σ3 =>
  if v2 = v4 then
    z_w d_L_law cl 1487 [some (vr r0), some (vr r1), some (vr r2), some (vi x3)] [] σ3
  else
    some (vi (0 : Int32), σ3))))) := (z_w_eq _ _ _ _ _ _).trans rfl
set_option maxRecDepth 100000 in
theorem e_L_law_1451 (cl : Nat → List ZV → ZM → ZR) (r0 : Nat) (r1 : Nat) (r2 : Nat) (x3 : Int32) (σ : ZM) : z_w d_L_law cl 1451 [some (vr r0), some (vr r1), some (vr r2), some (vi x3)] [] σ =
  z_g (z_kd σ r1 == 11) (z_bI (cl 322 [vr r1] σ) (fun v2 σ1 =>
  z_g (z_kd σ1 r2 == 12) (z_bI (cl 323 [vr r2] σ1) (fun v4 σ3 =>
  if v2 = v4 then
    z_w d_L_law cl 1487 [some (vr r0), some (vr r1), some (vr r2), some (vi x3)] [] σ3
  else
    some (vi (0 : Int32), σ3))))) := (z_w_eq _ _ _ _ _ _).trans rfl
set_option maxRecDepth 100000 in
theorem e_L_law_1464 (cl : Nat → List ZV → ZM → ZR) (r0 : Nat) (r1 : Nat) (r2 : Nat) (x3 : Int32) (σ : ZM) : z_w d_L_law cl 1464 [some (vr r0), some (vr r1), some (vr r2), some (vi x3)] [] σ =
  z_g (z_at σ r0 20 (x3 + (1 : Int32))) (z_g (z_kd σ r1 == 11) (z_bI (cl 324 [vr r1, vi (z_i σ r0 (x3 + (1 : Int32)).toNatClampNeg)] σ) (fun v2 σ1 =>
  z_g (z_at σ1 r0 20 (x3 + (1 : Int32))) (z_g (z_kd σ1 r2 == 12) (z_bI (cl 325 [vr r2, vi (z_i σ1 r0 (x3 + (1 : Int32)).toNatClampNeg)] σ1) (fun v4 σ3 =>
  if v2 = v4 then
    z_w d_L_law cl 1487 [some (vr r0), some (vr r1), some (vr r2), some (vi x3)] [] σ3
  else
    some (vi (0 : Int32), σ3))))))) := (z_w_eq _ _ _ _ _ _).trans rfl
set_option maxRecDepth 100000 in
theorem e_L_law_1487 (cl : Nat → List ZV → ZM → ZR) (r0 : Nat) (r1 : Nat) (r2 : Nat) (x3 : Int32) (σ : ZM) : z_w d_L_law cl 1487 [some (vr r0), some (vr r1), some (vr r2), some (vi x3)] [] σ =
  z_w d_L_law cl 18 [some (vr r0), some (vr r1), some (vr r2), some (vi (x3 + (6 : Int32)))] [] σ := (z_w_eq _ _ _ _ _ _).trans rfl
set_option maxRecDepth 100000 in
theorem e_H_textOf (d : Nat) (r0 : Nat) (x1 : Int32) (σ : ZM) : z_call (d + 1) 327 [vr r0, vi x1] σ =
  z_g (z_kd σ r0 == 4) (z_bI (z_call d 115 [vr r0, vi x1] σ) (fun v2 σ1 =>
  if v2 = 0 then
    some (vr 0, σ1)
  else
    z_g (z_kd σ1 r0 == 4) (z_g (z_at σ1 (z_r σ1 r0 11) 24 x1) (some (vr (z_r σ1 (z_r σ1 r0 11) x1.toNatClampNeg), σ1))))) := (z_w_eq _ _ _ _ _ _).trans rfl

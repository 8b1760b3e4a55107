/-! the methods as equations, printed by program (gen/emit.py); each holds by reduction -/
set_option maxRecDepth 100000 in
theorem e_Mo_draw (d : Nat) (r0 : Nat) (σ : ZM) : z_call (d + 1) 143 [vr r0] σ =
  z_g (z_kd σ r0 == 5) (z_x (z_i σ r0 4) (fun u1 => z_g (z_kd σ r0 == 5) (z_g (z_kd σ r0 == 5) (z_x (z_ui σ r0 4 ((((z_i σ r0 4) * (277 : Int32)) + (173 : Int32)) - (((z_i σ r0 4) * (277 : Int32)) + (173 : Int32)) / (30271 : Int32) * (30271 : Int32))) (fun σ2 =>
  some (vi u1, σ2)))))) := (z_w_eq _ _ _ _ _ _).trans rfl
set_option maxRecDepth 100000 in
theorem e_H_rulingText (d : Nat) (r0 : Nat) (σ : ZM) : z_call (d + 1) 144 [vr r0] σ =
  z_g (z_kd σ r0 == 4) (z_g (z_kd σ r0 == 4) (z_bR (z_call d 327 [vr r0, vi (z_i σ r0 12)] σ) (fun v2 σ1 =>
  some (vr v2, σ1)))) := (z_w_eq _ _ _ _ _ _).trans rfl
set_option maxRecDepth 100000 in
theorem e_Br_timeAs (d : Nat) (r0 : Nat) (x1 : Int32) (x2 : Int32) (x3 : Int32) (x4 : Int32) (x5 : Int32) (x6 : Int32) (σ : ZM) : z_call (d + 1) 145 [vr r0, vi x1, vi x2, vi x3, vi x4, vi x5, vi x6] σ =
  z_x (x2 + x6) (fun u1 => if x3 = (-1 : Int32) then
    if x4 = (1 : Int32) then
      z_g (z_kd σ r0 == 1) (z_g (z_kd σ (z_r σ r0 0) == 4) (z_g (z_at σ (z_r σ (z_r σ r0 0) 5) 20 x1) (some (vi (u1 - ((z_i σ (z_r σ (z_r σ r0 0) 5) x1.toNatClampNeg) / (2 : Int32))), σ))))
    else
      some (vi u1, σ)
  else
    if x4 = (1 : Int32) then
      z_g (z_kd σ r0 == 1) (z_g (z_kd σ (z_r σ r0 0) == 4) (z_g (z_at σ (z_r σ (z_r σ r0 0) 2) 20 x3) (z_x (u1 - (z_i σ (z_r σ (z_r σ r0 0) 2) x3.toNatClampNeg)) (fun u2 => if x4 = (1 : Int32) then
        z_g (z_kd σ r0 == 1) (z_g (z_kd σ (z_r σ r0 0) == 4) (z_g (z_at σ (z_r σ (z_r σ r0 0) 5) 20 x1) (some (vi (u2 - ((z_i σ (z_r σ (z_r σ r0 0) 5) x1.toNatClampNeg) / (2 : Int32))), σ))))
      else
        some (vi u2, σ)))))
    else
      z_g (z_kd σ r0 == 1) (z_g (z_kd σ (z_r σ r0 0) == 4) (z_g (z_at σ (z_r σ (z_r σ r0 0) 1) 20 x3) (z_bI (z_call d 137 [vi x5, vi (z_i σ (z_r σ (z_r σ r0 0) 1) x3.toNatClampNeg)] σ) (fun v4 σ3 =>
      if v4 = 0 then
        z_g (z_kd σ3 r0 == 1) (z_g (z_kd σ3 (z_r σ3 r0 0) == 4) (z_g (z_at σ3 (z_r σ3 (z_r σ3 r0 0) 2) 20 x3) (z_x (u1 - (z_i σ3 (z_r σ3 (z_r σ3 r0 0) 2) x3.toNatClampNeg)) (fun u5 => if x4 = (1 : Int32) then
          z_g (z_kd σ3 r0 == 1) (z_g (z_kd σ3 (z_r σ3 r0 0) == 4) (z_g (z_at σ3 (z_r σ3 (z_r σ3 r0 0) 5) 20 x1) (some (vi (u5 - ((z_i σ3 (z_r σ3 (z_r σ3 r0 0) 5) x1.toNatClampNeg) / (2 : Int32))), σ3))))
        else
          some (vi u5, σ3)))))
      else
        if x4 = (1 : Int32) then
          z_g (z_kd σ3 r0 == 1) (z_g (z_kd σ3 (z_r σ3 r0 0) == 4) (z_g (z_at σ3 (z_r σ3 (z_r σ3 r0 0) 5) 20 x1) (some (vi (u1 - ((z_i σ3 (z_r σ3 (z_r σ3 r0 0) 5) x1.toNatClampNeg) / (2 : Int32))), σ3))))
        else
          some (vi u1, σ3)))))) := (z_w_eq _ _ _ _ _ _).trans rfl
set_option maxRecDepth 100000 in
theorem e_Br_namePerson (d : Nat) (r0 : Nat) (x1 : Int32) (x2 : Int32) (x3 : Int32) (x4 : Int32) (x5 : Int32) (σ : ZM) : z_call (d + 1) 146 [vr r0, vi x1, vi x2, vi x3, vi x4, vi x5] σ =
  z_g (z_kd σ r0 == 1) (z_g (z_at σ (z_r σ r0 2) 20 (0 : Int32) && Nat.ble 10 (z_r σ r0 2)) (z_x (z_ui σ (z_r σ r0 2) (0 : Int32).toNatClampNeg x2) (fun σ1 =>
  z_g (z_kd σ1 r0 == 1) (z_g (z_kd σ1 r0 == 1) (z_g (z_kd σ1 (z_r σ1 r0 0) == 4) (z_g (z_at σ1 (z_r σ1 (z_r σ1 r0 0) 4) 20 x1) (z_g (z_at σ1 (z_r σ1 r0 2) 20 (1 : Int32) && Nat.ble 10 (z_r σ1 r0 2)) (z_x (z_ui σ1 (z_r σ1 r0 2) (1 : Int32).toNatClampNeg (z_i σ1 (z_r σ1 (z_r σ1 r0 0) 4) x1.toNatClampNeg)) (fun σ2 =>
  z_g (z_kd σ2 r0 == 1) (z_g (z_kd σ2 r0 == 1) (z_g (z_kd σ2 (z_r σ2 r0 0) == 4) (z_g (z_at σ2 (z_r σ2 (z_r σ2 r0 0) 5) 20 x1) (z_g (z_at σ2 (z_r σ2 r0 2) 20 (2 : Int32) && Nat.ble 10 (z_r σ2 r0 2)) (z_x (z_ui σ2 (z_r σ2 r0 2) (2 : Int32).toNatClampNeg (z_i σ2 (z_r σ2 (z_r σ2 r0 0) 5) x1.toNatClampNeg)) (fun σ3 =>
  z_g (z_kd σ3 r0 == 1) (z_g (z_at σ3 (z_r σ3 r0 2) 20 (3 : Int32) && Nat.ble 10 (z_r σ3 r0 2)) (z_x (z_ui σ3 (z_r σ3 r0 2) (3 : Int32).toNatClampNeg x3) (fun σ4 =>
  z_g (z_kd σ4 r0 == 1) (z_g (z_kd σ4 r0 == 1) (z_g (z_kd σ4 (z_r σ4 r0 0) == 4) (z_g (z_at σ4 (z_r σ4 (z_r σ4 r0 0) 1) 20 x4) (z_g (z_at σ4 (z_r σ4 r0 2) 20 (4 : Int32) && Nat.ble 10 (z_r σ4 r0 2)) (z_x (z_ui σ4 (z_r σ4 r0 2) (4 : Int32).toNatClampNeg (z_i σ4 (z_r σ4 (z_r σ4 r0 0) 1) x4.toNatClampNeg)) (fun σ5 =>
  z_g (z_kd σ5 r0 == 1) (if x5 = (1 : Int32) then
    z_g (z_at σ5 (z_r σ5 r0 2) 20 (5 : Int32) && Nat.ble 10 (z_r σ5 r0 2)) (z_x (z_ui σ5 (z_r σ5 r0 2) (5 : Int32).toNatClampNeg (1 : Int32)) (fun σ8 =>
    z_g (z_kd σ8 r0 == 1) (z_g (z_kd σ8 r0 == 1) (z_g (z_kd σ8 (z_r σ8 r0 0) == 4) (z_g (z_at σ8 (z_r σ8 (z_r σ8 r0 0) 2) 20 x4) (z_g (z_at σ8 (z_r σ8 r0 2) 20 (6 : Int32) && Nat.ble 10 (z_r σ8 r0 2)) (z_x (z_ui σ8 (z_r σ8 r0 2) (6 : Int32).toNatClampNeg (z_i σ8 (z_r σ8 (z_r σ8 r0 0) 2) x4.toNatClampNeg)) (fun σ9 =>
    some (vi 0, σ9)))))))))
  else
    z_g (z_at σ5 (z_r σ5 r0 2) 20 (5 : Int32) && Nat.ble 10 (z_r σ5 r0 2)) (z_x (z_ui σ5 (z_r σ5 r0 2) (5 : Int32).toNatClampNeg (0 : Int32)) (fun σ6 =>
    z_g (z_kd σ6 r0 == 1) (z_g (z_kd σ6 r0 == 1) (z_g (z_kd σ6 (z_r σ6 r0 0) == 4) (z_g (z_at σ6 (z_r σ6 (z_r σ6 r0 0) 2) 20 x4) (z_g (z_at σ6 (z_r σ6 r0 2) 20 (6 : Int32) && Nat.ble 10 (z_r σ6 r0 2)) (z_x (z_ui σ6 (z_r σ6 r0 2) (6 : Int32).toNatClampNeg (z_i σ6 (z_r σ6 (z_r σ6 r0 0) 2) x4.toNatClampNeg)) (fun σ7 =>
    some (vi 0, σ7)))))))))))))))))))))))))))))))))) := (z_w_eq _ _ _ _ _ _).trans rfl
set_option maxRecDepth 100000 in
theorem e_Br_joined (d : Nat) (x0 : Int32) (x1 : Int32) (x2 : Int32) (σ : ZM) : z_call (d + 1) 147 [vi x0, vi x1, vi x2] σ =
  if x0 = (3 : Int32) then
    some (vl ((x1 + x2).toInt64), σ)
  else if x0 = (4 : Int32) then
    some (vl ((x1 - x2).toInt64), σ)
  else if x0 = (5 : Int32) then
    some (vl (x1.toInt64 * x2.toInt64), σ)
  else if x0 = (6 : Int32) then
    if x2 = 0 then
      some (vl (0 : Int64), σ)
    else
      z_g (!(x2 == 0)) (some (vl ((x1 / x2).toInt64), σ))
  else if x0 = (7 : Int32) then
    if x2 = 0 then
      some (vl (0 : Int64), σ)
    else
      z_g (!(x2 == 0)) (some (vl ((x1 - x1 / x2 * x2).toInt64), σ))
  else if x0 = (8 : Int32) then
    if x1 < x2 then
      some (vl (1 : Int64), σ)
    else
      some (vl (0 : Int64), σ)
  else if x0 = (9 : Int32) then
    if x2 < x1 then
      some (vl (1 : Int64), σ)
    else
      some (vl (0 : Int64), σ)
  else if x0 = (10 : Int32) then
    if x1 = x2 then
      some (vl (1 : Int64), σ)
    else
      some (vl (0 : Int64), σ)
  else if x0 = (11 : Int32) then
    if x1 = x2 then
      some (vl (0 : Int64), σ)
    else
      some (vl (1 : Int64), σ)
  else if x0 = (12 : Int32) then
    some (vl (0 : Int64), σ)
  else if x0 = (13 : Int32) then
    some (vl (0 : Int64), σ)
  else if x0 = (14 : Int32) then
    some (vl (0 : Int64), σ)
  else if x0 = (15 : Int32) then
    some (vl (0 : Int64), σ)
  else if x0 = (16 : Int32) then
    if x2 < x1 then
      some (vl (0 : Int64), σ)
    else
      some (vl (1 : Int64), σ)
  else if x0 = (17 : Int32) then
    if x1 < x2 then
      some (vl (0 : Int64), σ)
    else
      some (vl (1 : Int64), σ)
  else if x0 = (18 : Int32) then
    some (vl (0 : Int64), σ)
  else if x0 = (19 : Int32) then
    some (vl (0 : Int64), σ)
  else if x0 = (20 : Int32) then
    some (vl (0 : Int64), σ)
  else if x0 = (21 : Int32) then
    some (vl (0 : Int64), σ)
  else if x0 = (22 : Int32) then
    some (vl (0 : Int64), σ)
  else if x0 = (23 : Int32) then
    some (vl (0 : Int64), σ)
  else if x0 = (24 : Int32) then
    some (vl (0 : Int64), σ)
  else if x0 = (25 : Int32) then
    some (vl (0 : Int64), σ)
  else if x0 = (26 : Int32) then
    some (vl (0 : Int64), σ)
  else if x0 = (27 : Int32) then
    some (vl (0 : Int64), σ)
  else if x0 = (28 : Int32) then
    some (vl (0 : Int64), σ)
  else if x0 = (29 : Int32) then
    some (vl (0 : Int64), σ)
  else if x0 = (30 : Int32) then
    some (vl (0 : Int64), σ)
  else if x0 = (31 : Int32) then
    some (vl (0 : Int64), σ)
  else if x0 = (32 : Int32) then
    some (vl (0 : Int64), σ)
  else if x0 = (33 : Int32) then
    some (vl (0 : Int64), σ)
  else if x0 = (34 : Int32) then
    some (vl (0 : Int64), σ)
  else if x0 = (35 : Int32) then
    some (vl (0 : Int64), σ)
  else if x0 = (36 : Int32) then
    some (vl (0 : Int64), σ)
  else if x0 = (37 : Int32) then
    some (vl (0 : Int64), σ)
  else if x0 = (38 : Int32) then
    some (vl (0 : Int64), σ)
  else if x0 = (39 : Int32) then
    some (vl (0 : Int64), σ)
  else if x0 = (40 : Int32) then
    some (vl (0 : Int64), σ)
  else if x0 = (41 : Int32) then
    some (vl ((x1 ||| x2).toInt64), σ)
  else if x0 = (42 : Int32) then
    some (vl ((x1 &&& x2).toInt64), σ)
  else some (vl (0 : Int64), σ) := (z_w_eq _ _ _ _ _ _).trans rfl
set_option maxRecDepth 100000 in
theorem e_Ma_min_JJ (d : Nat) (x0 : Int64) (x2 : Int64) (σ : ZM) : z_call (d + 1) 148 [vl x0, vl x2] σ =
  if 0 < (lg_cmp x0 x2) then
    some (vl x2, σ)
  else
    some (vl x0, σ) := (z_w_eq _ _ _ _ _ _).trans rfl
set_option maxRecDepth 100000 in
theorem e_Ma_max_JJ (d : Nat) (x0 : Int64) (x2 : Int64) (σ : ZM) : z_call (d + 1) 149 [vl x0, vl x2] σ =
  if (lg_cmp x0 x2) < 0 then
    some (vl x2, σ)
  else
    some (vl x0, σ) := (z_w_eq _ _ _ _ _ _).trans rfl
set_option maxRecDepth 100000 in
theorem e_Br_worth (d : Nat) (r0 : Nat) (r1 : Nat) (σ : ZM) : z_call (d + 1) 150 [vr r0, vr r1] σ =
  z_w d_Br_worth (z_call d) 4 [some (vr r0), some (vr r1), some (vi (0 : Int32)), some (vi (0 : Int32)), none, none, none] [] σ := (z_w_eq _ _ _ _ _ _).trans rfl
set_option maxRecDepth 100000 in
theorem e_Br_worth_4 (cl : Nat → List ZV → ZM → ZR) (r0 : Nat) (r1 : Nat) (x2 : Int32) (x3 : Int32) (σ : ZM) : z_w d_Br_worth cl 4 [some (vr r0), some (vr r1), some (vi x2), some (vi x3), none, none, none] [] σ =
  z_g (Nat.ble 20 (z_kd σ r1) && Nat.ble (z_kd σ r1) 24) (if x3 < (nI (z_ln σ r1)) then
    if x2 < (64 : Int32) then
      z_g (z_at σ r1 20 x3) (z_x ((z_i σ r1 x3.toNatClampNeg) &&& (63 : Int32)) (fun u1 => if u1 = (2 : Int32) then
        z_g (z_kd σ r0 == 1) (z_g (z_at σ r1 20 x3) (z_g (z_at σ (z_r σ r0 3) 20 x2 && Nat.ble 10 (z_r σ r0 3)) (z_x (z_ui σ (z_r σ r0 3) x2.toNatClampNeg ((z_i σ r1 x3.toNatClampNeg) >>> ((6 : Int32) &&& 31))) (fun σ7 =>
        z_x (x2 + (1 : Int32)) (fun u8 => z_w d_Br_worth cl 4 [some (vr r0), some (vr r1), some (vi u8), some (vi (x3 + (1 : Int32))), none, none, none] [] σ7)))))
      else
        z_bI (cl 16 [vi u1, vi (18 : Int32), vi (27 : Int32)] σ) (fun v3 σ2 =>
        if v3 = 0 then
          if u1 = (45 : Int32) then
            if 0 < x2 then
              z_g (z_kd σ2 r0 == 1) (z_g (z_kd σ2 r0 == 1) (z_g (z_at σ2 (z_r σ2 r0 3) 20 (x2 - (1 : Int32))) (z_g (z_at σ2 (z_r σ2 r0 3) 20 (x2 - (1 : Int32)) && Nat.ble 10 (z_r σ2 r0 3)) (z_x (z_ui σ2 (z_r σ2 r0 3) (x2 - (1 : Int32)).toNatClampNeg (-(z_i σ2 (z_r σ2 r0 3) (x2 - (1 : Int32)).toNatClampNeg))) (fun σ4 =>
              z_w d_Br_worth cl 4 [some (vr r0), some (vr r1), some (vi x2), some (vi (x3 + (1 : Int32))), none, none, none] [] σ4)))))
            else
              z_w d_Br_worth cl 113 [some (vr r0), some (vr r1), some (vi x2), some (vi x3), some (vi u1), none, none] [] σ2
          else
            z_w d_Br_worth cl 113 [some (vr r0), some (vr r1), some (vi x2), some (vi x3), some (vi u1), none, none] [] σ2
        else
          z_g (z_kd σ2 r0 == 1) (z_g (z_kd σ2 r0 == 1) (z_g (z_at σ2 (z_r σ2 r0 2) 20 (u1 - (18 : Int32))) (z_g (z_at σ2 (z_r σ2 r0 3) 20 x2 && Nat.ble 10 (z_r σ2 r0 3)) (z_x (z_ui σ2 (z_r σ2 r0 3) x2.toNatClampNeg (z_i σ2 (z_r σ2 r0 2) (u1 - (18 : Int32)).toNatClampNeg)) (fun σ5 =>
          z_x (x2 + (1 : Int32)) (fun u6 => z_w d_Br_worth cl 4 [some (vr r0), some (vr r1), some (vi u6), some (vi (x3 + (1 : Int32))), none, none, none] [] σ5)))))))))
    else
      if 0 < x2 then
        z_g (z_kd σ r0 == 1) (z_g (z_at σ (z_r σ r0 3) 20 (x2 - (1 : Int32))) (some (vi (z_i σ (z_r σ r0 3) (x2 - (1 : Int32)).toNatClampNeg), σ)))
      else
        some (vi (0 : Int32), σ)
  else
    if 0 < x2 then
      z_g (z_kd σ r0 == 1) (z_g (z_at σ (z_r σ r0 3) 20 (x2 - (1 : Int32))) (some (vi (z_i σ (z_r σ r0 3) (x2 - (1 : Int32)).toNatClampNeg), σ)))
    else
      some (vi (0 : Int32), σ)) := (z_w_eq _ _ _ _ _ _).trans rfl
set_option maxRecDepth 100000 in
theorem e_Br_worth_113 (cl : Nat → List ZV → ZM → ZR) (r0 : Nat) (r1 : Nat) (x2 : Int32) (x3 : Int32) (x4 : Int32) (σ : ZM) : z_w d_Br_worth cl 113 [some (vr r0), some (vr r1), some (vi x2), some (vi x3), some (vi x4), none, none] [] σ =
  if x4 = (43 : Int32) then
    if 0 < x2 then
      z_g (z_kd σ r0 == 1) (z_g (z_kd σ r0 == 1) (z_g (z_at σ (z_r σ r0 3) 20 (x2 - (1 : Int32))) (z_g (z_at σ (z_r σ r0 3) 20 (x2 - (1 : Int32)) && Nat.ble 10 (z_r σ r0 3)) (z_x (z_ui σ (z_r σ r0 3) (x2 - (1 : Int32)).toNatClampNeg ((1 : Int32) - (z_i σ (z_r σ r0 3) (x2 - (1 : Int32)).toNatClampNeg))) (fun σ1 =>
      z_w d_Br_worth cl 4 [some (vr r0), some (vr r1), some (vi x2), some (vi (x3 + (1 : Int32))), none, none, none] [] σ1)))))
    else
      z_w d_Br_worth cl 145 [some (vr r0), some (vr r1), some (vi x2), some (vi x3), some (vi x4), none, none] [] σ
  else
    z_w d_Br_worth cl 145 [some (vr r0), some (vr r1), some (vi x2), some (vi x3), some (vi x4), none, none] [] σ := (z_w_eq _ _ _ _ _ _).trans rfl
set_option maxRecDepth 100000 in
theorem e_Br_worth_145 (cl : Nat → List ZV → ZM → ZR) (r0 : Nat) (r1 : Nat) (x2 : Int32) (x3 : Int32) (x4 : Int32) (σ : ZM) : z_w d_Br_worth cl 145 [some (vr r0), some (vr r1), some (vi x2), some (vi x3), some (vi x4), none, none] [] σ =
  if x4 = (44 : Int32) then
    if (2 : Int32) < x2 then
      z_x (x2 + (-2 : Int32)) (fun u1 => z_g (z_kd σ r0 == 1) (z_g (z_at σ (z_r σ r0 3) 20 (u1 - (1 : Int32))) (z_g (z_kd σ r0 == 1) (z_g (z_at σ (z_r σ r0 3) 20 u1) (z_bI (cl 34 [vi (z_i σ (z_r σ r0 3) (u1 - (1 : Int32)).toNatClampNeg), vi (z_i σ (z_r σ r0 3) u1.toNatClampNeg)] σ) (fun v3 σ2 =>
      z_g (z_kd σ2 r0 == 1) (z_g (z_at σ2 (z_r σ2 r0 3) 20 (u1 - (1 : Int32))) (z_g (z_kd σ2 r0 == 1) (z_g (z_at σ2 (z_r σ2 r0 3) 20 u1) (z_bI (cl 48 [vi (z_i σ2 (z_r σ2 r0 3) (u1 - (1 : Int32)).toNatClampNeg), vi (z_i σ2 (z_r σ2 r0 3) u1.toNatClampNeg)] σ2) (fun v5 σ4 =>
      z_g (z_kd σ4 r0 == 1) (z_g (z_kd σ4 r0 == 1) (z_g (z_at σ4 (z_r σ4 r0 3) 20 (u1 + (1 : Int32))) (z_bI (cl 34 [vi v5, vi (z_i σ4 (z_r σ4 r0 3) (u1 + (1 : Int32)).toNatClampNeg)] σ4) (fun v7 σ6 =>
      z_bI (cl 48 [vi v3, vi v7] σ6) (fun v9 σ8 =>
      z_g (z_at σ8 (z_r σ4 r0 3) 20 (u1 - (1 : Int32)) && Nat.ble 10 (z_r σ4 r0 3)) (z_x (z_ui σ8 (z_r σ4 r0 3) (u1 - (1 : Int32)).toNatClampNeg v9) (fun σ10 =>
      z_w d_Br_worth cl 4 [some (vr r0), some (vr r1), some (vi u1), some (vi (x3 + (1 : Int32))), none, none, none] [] σ10))))))))))))))))))
    else
      z_w d_Br_worth cl 227 [some (vr r0), some (vr r1), some (vi x2), some (vi x3), some (vi x4), none, none] [] σ
  else
    z_w d_Br_worth cl 227 [some (vr r0), some (vr r1), some (vi x2), some (vi x3), some (vi x4), none, none] [] σ := (z_w_eq _ _ _ _ _ _).trans rfl
set_option maxRecDepth 100000 in
theorem e_Br_worth_227 (cl : Nat → List ZV → ZM → ZR) (r0 : Nat) (r1 : Nat) (x2 : Int32) (x3 : Int32) (x4 : Int32) (σ : ZM) : z_w d_Br_worth cl 227 [some (vr r0), some (vr r1), some (vi x2), some (vi x3), some (vi x4), none, none] [] σ =
  if (1 : Int32) < x2 then
    z_x (x2 + (-1 : Int32)) (fun u1 => z_g (z_kd σ r0 == 1) (z_g (z_at σ (z_r σ r0 3) 20 (u1 - (1 : Int32))) (z_g (z_kd σ r0 == 1) (z_g (z_at σ (z_r σ r0 3) 20 u1) (z_bL (cl 147 [vi x4, vi (z_i σ (z_r σ r0 3) (u1 - (1 : Int32)).toNatClampNeg), vi (z_i σ (z_r σ r0 3) u1.toNatClampNeg)] σ) (fun v3 σ2 =>
    z_g (z_kd σ2 r0 == 1) (z_bL (cl 148 [vl (1000000 : Int64), vl v3] σ2) (fun v5 σ4 =>
    z_bL (cl 149 [vl (-1000000 : Int64), vl v5] σ4) (fun v7 σ6 =>
    z_g (z_at σ6 (z_r σ2 r0 3) 20 (u1 - (1 : Int32)) && Nat.ble 10 (z_r σ2 r0 3)) (z_x (z_ui σ6 (z_r σ2 r0 3) (u1 - (1 : Int32)).toNatClampNeg (v7.toInt32)) (fun σ8 =>
    z_w d_Br_worth cl 4 [some (vr r0), some (vr r1), some (vi u1), some (vi (x3 + (1 : Int32))), none, none, none] [] σ8)))))))))))
  else
    z_w d_Br_worth cl 4 [some (vr r0), some (vr r1), some (vi x2), some (vi (x3 + (1 : Int32))), none, none, none] [] σ := (z_w_eq _ _ _ _ _ _).trans rfl
set_option maxRecDepth 100000 in
theorem e_Br_passesOf (d : Nat) (r0 : Nat) (x1 : Int32) (σ : ZM) : z_call (d + 1) 151 [vr r0, vi x1] σ =
  z_g (z_kd σ r0 == 1) (z_g (z_kd σ (z_r σ r0 0) == 4) (z_bR (z_call d 144 [vr (z_r σ r0 0)] σ) (fun v2 σ1 =>
  z_g (!(v2 == 9)) (if v2 = 0 then
    some (vi (3 : Int32), σ1)
  else
    z_g (z_kd σ1 v2 == 9) (z_g (!((z_r σ1 v2 1) == 9)) (if (z_r σ1 v2 1) = 0 then
      some (vi (3 : Int32), σ1)
    else
      z_g (z_kd σ1 r0 == 1) (z_g (z_kd σ1 (z_r σ1 r0 1) == 5) (z_g (z_at σ1 (z_r σ1 (z_r σ1 r0 1) 0) 20 x1) (z_x (z_i σ1 (z_r σ1 (z_r σ1 r0 1) 0) x1.toNatClampNeg) (fun u3 => if u3 = (-1 : Int32) then
        some (vi (0 : Int32), σ1)
      else
        z_g (z_kd σ1 r0 == 1) (z_g (z_kd σ1 (z_r σ1 r0 1) == 5) (z_g (z_at σ1 (z_r σ1 (z_r σ1 r0 1) 1) 20 x1) (z_x (z_i σ1 (z_r σ1 (z_r σ1 r0 1) 1) x1.toNatClampNeg) (fun u4 => z_g (z_kd σ1 r0 == 1) (z_g (z_kd σ1 (z_r σ1 r0 1) == 5) (z_g (z_kd σ1 r0 == 1) (z_g (z_kd σ1 (z_r σ1 r0 1) == 5) (z_g (z_kd σ1 r0 == 1) (z_g (z_kd σ1 (z_r σ1 r0 0) == 4) (z_g (z_at σ1 (z_r σ1 (z_r σ1 r0 0) 6) 20 x1) (z_g (z_kd σ1 r0 == 1) (z_bI (z_call d 145 [vr r0, vi x1, vi (z_i σ1 (z_r σ1 r0 1) 3), vi u3, vi u4, vi (z_i σ1 (z_r σ1 r0 1) 2), vi (z_i σ1 (z_r σ1 (z_r σ1 r0 0) 6) x1.toNatClampNeg)] σ1) (fun v6 σ5 =>
        z_g (z_kd σ5 r0 == 1) (z_g (z_kd σ5 (z_r σ5 r0 1) == 5) (z_g (z_kd σ5 r0 == 1) (z_bV (z_call d 146 [vr r0, vi x1, vi (z_i σ5 (z_r σ5 r0 1) 3), vi v6, vi u3, vi u4] σ5) (fun σ7 =>
        z_g (z_kd σ7 v2 == 9) (z_g (z_kd σ7 r0 == 1) (z_bI (z_call d 150 [vr r0, vr (z_r σ7 v2 1)] σ7) (fun v9 σ8 =>
        z_bI (z_call d 34 [vi (10 : Int32), vi v9] σ8) (fun v11 σ10 =>
        z_bI (z_call d 48 [vi (0 : Int32), vi v11] σ10) (fun v13 σ12 =>
        some (vi v13, σ12))))))))))))))))))))))))))))))))) := (z_w_eq _ _ _ _ _ _).trans rfl
set_option maxRecDepth 100000 in
theorem e_De_spread (d : Nat) (r0 : Nat) (x1 : Int32) (σ : ZM) : z_call (d + 1) 152 [vr r0, vi x1] σ =
  z_g (z_kd σ r0 == 2) (z_g (z_kd σ (z_r σ r0 1) == 5) (z_bV (z_call d 142 [vr (z_r σ r0 1), vi x1] σ) (fun σ1 =>
  z_g (z_kd σ1 r0 == 2) (z_g (z_kd σ1 (z_r σ1 r0 1) == 5) (z_g (z_at σ1 (z_r σ1 (z_r σ1 r0 1) 0) 20 x1) (z_x (z_i σ1 (z_r σ1 (z_r σ1 r0 1) 0) x1.toNatClampNeg) (fun u2 => z_w d_De_spread (z_call d) 20 [some (vr r0), some (vi x1), some (vi u2), some (vi (1 : Int32)), none, none, none, none] [] σ1))))))) := (z_w_eq _ _ _ _ _ _).trans rfl
set_option maxRecDepth 100000 in
theorem e_De_spread_20 (cl : Nat → List ZV → ZM → ZR) (r0 : Nat) (x1 : Int32) (x2 : Int32) (x3 : Int32) (σ : ZM) : z_w d_De_spread cl 20 [some (vr r0), some (vi x1), some (vi x2), some (vi x3), none, none, none, none] [] σ =
  if x3 < (-1 : Int32) then
    some (vi 0, σ)
  else
    if x2 = (-1 : Int32) then
      some (vi 0, σ)
    else
      z_x (x2 + x3) (fun u1 => z_w d_De_spread cl 38 [some (vr r0), some (vi x1), some (vi x2), some (vi x3), some (vi x1), some (vi u1), none, none] [] σ) := (z_w_eq _ _ _ _ _ _).trans rfl
set_option maxRecDepth 100000 in
theorem e_De_spread_38 (cl : Nat → List ZV → ZM → ZR) (r0 : Nat) (x1 : Int32) (x2 : Int32) (x3 : Int32) (x4 : Int32) (x5 : Int32) (σ : ZM) : z_w d_De_spread cl 38 [some (vr r0), some (vi x1), some (vi x2), some (vi x3), some (vi x4), some (vi x5), none, none] [] σ =
  z_g (z_kd σ r0 == 2) (z_g (z_kd σ (z_r σ r0 0) == 4) (z_bI (cl 119 [vr (z_r σ r0 0), vi x5] σ) (fun v2 σ1 =>
  if v2 = 0 then
    z_w d_De_spread cl 20 [some (vr r0), some (vi x1), some (vi x2), some (vi (x3 + (-2 : Int32))), none, none, none, none] [] σ1
  else
    if x4 = (-1 : Int32) then
      z_w d_De_spread cl 20 [some (vr r0), some (vi x1), some (vi x2), some (vi (x3 + (-2 : Int32))), none, none, none, none] [] σ1
    else
      z_g (z_kd σ1 r0 == 2) (z_g (z_kd σ1 (z_r σ1 r0 1) == 5) (z_bI (cl 120 [vr (z_r σ1 r0 1), vi x5] σ1) (fun v4 σ3 =>
      if v4 = (-1 : Int32) then
        if (1 : Int32) = 0 then
          z_w d_De_spread cl 113 [some (vr r0), some (vi x1), some (vi x2), some (vi x3), none, some (vi x5), some (vi v4), some (vi (1 : Int32))] [vi v4] σ3
        else
          z_w d_De_spread cl 113 [some (vr r0), some (vi x1), some (vi x2), some (vi x3), none, some (vi x5), some (vi v4), some (vi (1 : Int32))] [vi (-1 : Int32)] σ3
      else
        z_g (z_kd σ3 r0 == 2) (z_g (z_kd σ3 (z_r σ3 r0 1) == 5) (z_bI (cl 143 [vr (z_r σ3 r0 1)] σ3) (fun v6 σ5 =>
        z_g (z_kd σ5 r0 == 2) (z_g (z_kd σ5 (z_r σ5 r0 3) == 1) (z_bI (cl 151 [vr (z_r σ5 r0 3), vi x4] σ5) (fun v8 σ7 =>
        if (v6 - v6 / (10 : Int32) * (10 : Int32)) < v8 then
          if (0 : Int32) = 0 then
            z_w d_De_spread cl 113 [some (vr r0), some (vi x1), some (vi x2), some (vi x3), none, some (vi x5), some (vi v4), some (vi (0 : Int32))] [vi v4] σ7
          else
            z_w d_De_spread cl 113 [some (vr r0), some (vi x1), some (vi x2), some (vi x3), none, some (vi x5), some (vi v4), some (vi (0 : Int32))] [vi (-1 : Int32)] σ7
        else
          if (1 : Int32) = 0 then
            z_w d_De_spread cl 113 [some (vr r0), some (vi x1), some (vi x2), some (vi x3), none, some (vi x5), some (vi v4), some (vi (1 : Int32))] [vi v4] σ7
          else
            z_w d_De_spread cl 113 [some (vr r0), some (vi x1), some (vi x2), some (vi x3), none, some (vi x5), some (vi v4), some (vi (1 : Int32))] [vi (-1 : Int32)] σ7)))))))))))) := (z_w_eq _ _ _ _ _ _).trans rfl
set_option maxRecDepth 100000 in
theorem e_De_spread_113 (cl : Nat → List ZV → ZM → ZR) (r0 : Nat) (x1 : Int32) (x2 : Int32) (x3 : Int32) (x5 : Int32) (x6 : Int32) (x7 : Int32) (s0 : Int32) (σ : ZM) : z_w d_De_spread cl 113 [some (vr r0), some (vi x1), some (vi x2), some (vi x3), none, some (vi x5), some (vi x6), some (vi x7)] [vi s0] σ =
  if x7 = 0 then
    z_g (z_kd σ r0 == 2) (z_g (z_kd σ (z_r σ r0 1) == 5) (z_bV (cl 142 [vr (z_r σ r0 1), vi x6] σ) (fun σ2 =>
    z_x (x5 + x3) (fun u3 => z_w d_De_spread cl 38 [some (vr r0), some (vi x1), some (vi x2), some (vi x3), some (vi s0), some (vi u3), none, none] [] σ2))))
  else
    z_x (x5 + x3) (fun u1 => z_w d_De_spread cl 38 [some (vr r0), some (vi x1), some (vi x2), some (vi x3), some (vi s0), some (vi u1), none, none] [] σ) := (z_w_eq _ _ _ _ _ _).trans rfl
set_option maxRecDepth 100000 in
theorem e_De_coughsNow (d : Nat) (r0 : Nat) (x1 : Int32) (σ : ZM) : z_call (d + 1) 153 [vr r0, vi x1] σ =
  z_g (z_kd σ r0 == 2) (z_g (z_kd σ (z_r σ r0 0) == 4) (z_bI (z_call d 118 [vr (z_r σ r0 0), vi x1] σ) (fun v2 σ1 =>
  if v2 = 0 then
    some (vi (-1 : Int32), σ1)
  else
    z_g (z_kd σ1 r0 == 2) (z_g (z_kd σ1 r0 == 2) (z_g (z_kd σ1 (z_r σ1 r0 1) == 5) (z_g (z_kd σ1 (z_r σ1 r0 1) == 5) (z_bI (z_call d 141 [vr (z_r σ1 r0 1), vi x1, vi (z_i σ1 (z_r σ1 r0 1) 3)] σ1) (fun v4 σ3 =>
    if v4 = 0 then
      z_g (z_kd σ3 r0 == 2) (z_g (z_kd σ3 r0 == 2) (z_g (z_kd σ3 (z_r σ3 r0 2) == 8) (z_bV (z_call d 122 [vr (z_r σ3 r0 2), vr (z_r σ3 r0 1)] σ3) (fun σ5 =>
      z_g (z_kd σ5 r0 == 2) (z_g (z_kd σ5 (z_r σ5 r0 1) == 5) (z_x (z_i σ5 (z_r σ5 r0 1) 5) (fun u6 => z_g (z_kd σ5 r0 == 2) (z_bV (z_call d 152 [vr r0, vi x1] σ5) (fun σ7 =>
      z_g (z_kd σ7 r0 == 2) (z_g (z_kd σ7 (z_r σ7 r0 1) == 5) (some (vi ((z_i σ7 (z_r σ7 r0 1) 5) - u6), σ7))))))))))))
    else
      some (vi (-1 : Int32), σ3))))))))) := (z_w_eq _ _ _ _ _ _).trans rfl
set_option maxRecDepth 100000 in
theorem e_B_cough (d : Nat) (r0 : Nat) (x1 : Int32) (σ : ZM) : z_call (d + 1) 154 [vr r0, vi x1] σ =
  z_g (z_kd σ r0 == 11) (z_g (z_kd σ (z_r σ r0 12) == 2) (z_bI (z_call d 153 [vr (z_r σ r0 12), vi x1] σ) (fun v2 σ1 =>
  some (vi v2, σ1)))) := (z_w_eq _ _ _ _ _ _).trans rfl
set_option maxRecDepth 100000 in
theorem e_M_isCoughing (d : Nat) (r0 : Nat) (x1 : Int32) (x2 : Int32) (σ : ZM) : z_call (d + 1) 155 [vr r0, vi x1, vi x2] σ =
  z_w d_M_isCoughing (z_call d) 2 [some (vr r0), some (vi x1), some (vi x2), some (vi (0 : Int32))] [] σ := (z_w_eq _ _ _ _ _ _).trans rfl
set_option maxRecDepth 100000 in
theorem e_M_isCoughing_2 (cl : Nat → List ZV → ZM → ZR) (r0 : Nat) (x1 : Int32) (x2 : Int32) (x3 : Int32) (σ : ZM) : z_w d_M_isCoughing cl 2 [some (vr r0), some (vi x1), some (vi x2), some (vi x3)] [] σ =
  z_g (z_kd σ r0 == 12) (z_g (z_at σ (z_r σ r0 0) 20 (11 : Int32)) (if x3 < (z_i σ (z_r σ r0 0) (11 : Int32).toNatClampNeg) then
    z_g (z_kd σ r0 == 12) (z_g (z_at σ (z_r σ r0 0) 20 ((106 : Int32) + ((2 : Int32) * x3))) (if (z_i σ (z_r σ r0 0) ((106 : Int32) + ((2 : Int32) * x3)).toNatClampNeg) = x1 then
      z_g (z_kd σ r0 == 12) (z_g (z_at σ (z_r σ r0 0) 20 (((106 : Int32) + ((2 : Int32) * x3)) + (1 : Int32))) (if (z_i σ (z_r σ r0 0) (((106 : Int32) + ((2 : Int32) * x3)) + (1 : Int32)).toNatClampNeg) = x2 then
        some (vi (1 : Int32), σ)
      else
        z_w d_M_isCoughing cl 2 [some (vr r0), some (vi x1), some (vi x2), some (vi (x3 + (1 : Int32)))] [] σ))
    else
      z_w d_M_isCoughing cl 2 [some (vr r0), some (vi x1), some (vi x2), some (vi (x3 + (1 : Int32)))] [] σ))
  else
    some (vi (0 : Int32), σ))) := (z_w_eq _ _ _ _ _ _).trans rfl
set_option maxRecDepth 100000 in
theorem e_M_coughs_I (d : Nat) (r0 : Nat) (x1 : Int32) (σ : ZM) : z_call (d + 1) 156 [vr r0, vi x1] σ =
  z_g (z_kd σ r0 == 12) (z_g (z_at σ (z_r σ r0 0) 20 (3 : Int32)) (z_g (z_kd σ r0 == 12) (z_bI (z_call d 155 [vr r0, vi x1, vi (z_i σ (z_r σ r0 0) (3 : Int32).toNatClampNeg)] σ) (fun v2 σ1 =>
  if v2 = 0 then
    z_g (z_kd σ1 r0 == 12) (z_g (z_at σ1 (z_r σ1 r0 0) 20 (11 : Int32)) (if (z_i σ1 (z_r σ1 r0 0) (11 : Int32).toNatClampNeg) = (20 : Int32) then
      some (vi (0 : Int32), σ1)
    else
      z_g (z_kd σ1 r0 == 12) (z_g (z_kd σ1 r0 == 12) (z_g (z_at σ1 (z_r σ1 r0 0) 20 (11 : Int32)) (z_g (z_at σ1 (z_r σ1 r0 0) 20 ((106 : Int32) + ((2 : Int32) * (z_i σ1 (z_r σ1 r0 0) (11 : Int32).toNatClampNeg))) && Nat.ble 10 (z_r σ1 r0 0)) (z_x (z_ui σ1 (z_r σ1 r0 0) ((106 : Int32) + ((2 : Int32) * (z_i σ1 (z_r σ1 r0 0) (11 : Int32).toNatClampNeg))).toNatClampNeg x1) (fun σ3 =>
      z_g (z_kd σ3 r0 == 12) (z_g (z_kd σ3 r0 == 12) (z_g (z_at σ3 (z_r σ3 r0 0) 20 (11 : Int32)) (z_g (z_kd σ3 r0 == 12) (z_g (z_at σ3 (z_r σ3 r0 0) 20 (3 : Int32)) (z_g (z_at σ3 (z_r σ3 r0 0) 20 (((106 : Int32) + ((2 : Int32) * (z_i σ3 (z_r σ3 r0 0) (11 : Int32).toNatClampNeg))) + (1 : Int32)) && Nat.ble 10 (z_r σ3 r0 0)) (z_x (z_ui σ3 (z_r σ3 r0 0) (((106 : Int32) + ((2 : Int32) * (z_i σ3 (z_r σ3 r0 0) (11 : Int32).toNatClampNeg))) + (1 : Int32)).toNatClampNeg (z_i σ3 (z_r σ3 r0 0) (3 : Int32).toNatClampNeg)) (fun σ4 =>
      z_g (z_kd σ4 r0 == 12) (z_x (z_r σ4 r0 0) (fun u5 => z_g (z_at σ4 u5 20 (11 : Int32)) (z_g (z_at σ4 u5 20 (11 : Int32) && Nat.ble 10 u5) (z_x (z_ui σ4 u5 (11 : Int32).toNatClampNeg ((z_i σ4 u5 (11 : Int32).toNatClampNeg) + (1 : Int32))) (fun σ6 =>
      some (vi (1 : Int32), σ6))))))))))))))))))))
  else
    some (vi (0 : Int32), σ1))))) := (z_w_eq _ _ _ _ _ _).trans rfl
set_option maxRecDepth 100000 in
theorem e_M_anew (d : Nat) (r0 : Nat) (σ : ZM) : z_call (d + 1) 157 [vr r0] σ =
  z_g (z_kd σ r0 == 12) (z_g (z_kd σ r0 == 12) (z_g (z_at σ (z_r σ r0 0) 20 (4 : Int32)) (z_g (z_at σ (z_r σ r0 0) 20 (4 : Int32) && Nat.ble 10 (z_r σ r0 0)) (z_x (z_ui σ (z_r σ r0 0) (4 : Int32).toNatClampNeg ((((z_i σ (z_r σ r0 0) (4 : Int32).toNatClampNeg) * (277 : Int32)) + (173 : Int32)) - (((z_i σ (z_r σ r0 0) (4 : Int32).toNatClampNeg) * (277 : Int32)) + (173 : Int32)) / (30271 : Int32) * (30271 : Int32))) (fun σ1 =>
  some (vi 0, σ1)))))) := (z_w_eq _ _ _ _ _ _).trans rfl
set_option maxRecDepth 100000 in
theorem e_M_drawn (d : Nat) (r0 : Nat) (σ : ZM) : z_call (d + 1) 158 [vr r0] σ =
  z_g (z_kd σ r0 == 12) (z_g (z_at σ (z_r σ r0 0) 20 (4 : Int32)) (z_x ((z_i σ (z_r σ r0 0) (4 : Int32).toNatClampNeg) - (z_i σ (z_r σ r0 0) (4 : Int32).toNatClampNeg) / (10 : Int32) * (10 : Int32)) (fun u1 => z_g (z_kd σ r0 == 12) (z_bV (z_call d 157 [vr r0] σ) (fun σ2 =>
  some (vi u1, σ2)))))) := (z_w_eq _ _ _ _ _ _).trans rfl
set_option maxRecDepth 100000 in
theorem e_M_seatOf (d : Nat) (r0 : Nat) (x1 : Int32) (x2 : Int32) (σ : ZM) : z_call (d + 1) 159 [vr r0, vi x1, vi x2] σ =
  z_g (z_kd σ r0 == 12) (z_g (z_at σ (z_r σ r0 0) 20 (((12 : Int32) + ((2 : Int32) * x1)) + x2)) (some (vi (z_i σ (z_r σ r0 0) (((12 : Int32) + ((2 : Int32) * x1)) + x2).toNatClampNeg), σ))) := (z_w_eq _ _ _ _ _ _).trans rfl
set_option maxRecDepth 100000 in
theorem e_M_timeOf (d : Nat) (r0 : Nat) (x1 : Int32) (x2 : Int32) (σ : ZM) : z_call (d + 1) 160 [vr r0, vi x1, vi x2] σ =
  z_g (z_kd σ r0 == 12) (z_bI (z_call d 126 [vr r0, vi x1, vi (3 : Int32)] σ) (fun v2 σ1 =>
  z_g (z_kd σ1 r0 == 12) (z_bI (z_call d 126 [vr r0, vi x1, vi (4 : Int32)] σ1) (fun v4 σ3 =>
  if v4 = (1 : Int32) then
    if v2 = (-1 : Int32) then
      z_w d_M_timeOf (z_call d) 63 [some (vr r0), some (vi x1), some (vi x2), none, some (vi (1 : Int32)), none] [vi (0 : Int32)] σ3
    else
      z_g (z_kd σ3 r0 == 12) (z_g (z_at σ3 (z_r σ3 r0 0) 20 (8 : Int32)) (z_g (z_kd σ3 r0 == 12) (z_bI (z_call d 159 [vr r0, vi v2, vi (0 : Int32)] σ3) (fun v14 σ13 =>
      z_bI (z_call d 88 [vi (z_i σ3 (z_r σ3 r0 0) (8 : Int32).toNatClampNeg), vi v14] σ13) (fun v16 σ15 =>
      if v16 = 0 then
        z_g (z_kd σ15 r0 == 12) (z_bI (z_call d 159 [vr r0, vi v2, vi (1 : Int32)] σ15) (fun v18 σ17 =>
        z_w d_M_timeOf (z_call d) 63 [some (vr r0), some (vi x1), some (vi x2), none, some (vi (1 : Int32)), none] [vi v18] σ17))
      else
        if (1 : Int32) = 0 then
          z_w d_M_timeOf (z_call d) 63 [some (vr r0), some (vi x1), some (vi x2), none, some (vi (1 : Int32)), none] [vi (0 : Int32)] σ15
        else
          z_g (z_kd σ15 r0 == 12) (z_bI (z_call d 159 [vr r0, vi v2, vi (1 : Int32)] σ15) (fun v20 σ19 =>
          z_w d_M_timeOf (z_call d) 63 [some (vr r0), some (vi x1), some (vi x2), none, some (vi (1 : Int32)), none] [vi v20] σ19)))))))
  else
    if v2 = (-1 : Int32) then
      z_w d_M_timeOf (z_call d) 63 [some (vr r0), some (vi x1), some (vi x2), none, some (vi (0 : Int32)), none] [vi (0 : Int32)] σ3
    else
      z_g (z_kd σ3 r0 == 12) (z_g (z_at σ3 (z_r σ3 r0 0) 20 (8 : Int32)) (z_g (z_kd σ3 r0 == 12) (z_bI (z_call d 159 [vr r0, vi v2, vi (0 : Int32)] σ3) (fun v6 σ5 =>
      z_bI (z_call d 88 [vi (z_i σ3 (z_r σ3 r0 0) (8 : Int32).toNatClampNeg), vi v6] σ5) (fun v8 σ7 =>
      if v8 = 0 then
        z_g (z_kd σ7 r0 == 12) (z_bI (z_call d 159 [vr r0, vi v2, vi (1 : Int32)] σ7) (fun v10 σ9 =>
        z_w d_M_timeOf (z_call d) 63 [some (vr r0), some (vi x1), some (vi x2), none, some (vi (0 : Int32)), none] [vi v10] σ9))
      else
        if (0 : Int32) = 0 then
          z_w d_M_timeOf (z_call d) 63 [some (vr r0), some (vi x1), some (vi x2), none, some (vi (0 : Int32)), none] [vi (0 : Int32)] σ7
        else
          z_g (z_kd σ7 r0 == 12) (z_bI (z_call d 159 [vr r0, vi v2, vi (1 : Int32)] σ7) (fun v12 σ11 =>
          z_w d_M_timeOf (z_call d) 63 [some (vr r0), some (vi x1), some (vi x2), none, some (vi (0 : Int32)), none] [vi v12] σ11))))))))))) := (z_w_eq _ _ _ _ _ _).trans rfl
set_option maxRecDepth 100000 in
theorem e_M_timeOf_63 (cl : Nat → List ZV → ZM → ZR) (r0 : Nat) (x1 : Int32) (x2 : Int32) (x4 : Int32) (s0 : Int32) (σ : ZM) : z_w d_M_timeOf cl 63 [some (vr r0), some (vi x1), some (vi x2), none, some (vi x4), none] [vi s0] σ =
  z_g (z_kd σ r0 == 12) (z_bI (cl 126 [vr r0, vi x1, vi (2 : Int32)] σ) (fun v2 σ1 =>
  if x4 = 0 then
    some (vi (((x2 + v2) - s0) - (0 : Int32)), σ1)
  else
    z_g (z_kd σ1 r0 == 12) (z_bI (cl 126 [vr r0, vi x1, vi (1 : Int32)] σ1) (fun v4 σ3 =>
    some (vi (((x2 + v2) - s0) - (v4 / (2 : Int32))), σ3))))) := (z_w_eq _ _ _ _ _ _).trans rfl
set_option maxRecDepth 100000 in
theorem e_M_name (d : Nat) (r0 : Nat) (x1 : Int32) (x2 : Int32) (σ : ZM) : z_call (d + 1) 161 [vr r0, vi x1, vi x2] σ =
  z_g (z_kd σ r0 == 12) (z_g (z_at σ (z_r σ r0 21) 20 (0 : Int32) && Nat.ble 10 (z_r σ r0 21)) (z_x (z_ui σ (z_r σ r0 21) (0 : Int32).toNatClampNeg x2) (fun σ1 =>
  z_g (z_kd σ1 r0 == 12) (z_g (z_kd σ1 r0 == 12) (z_bI (z_call d 126 [vr r0, vi x1, vi (0 : Int32)] σ1) (fun v3 σ2 =>
  z_g (z_at σ2 (z_r σ1 r0 21) 20 (1 : Int32) && Nat.ble 10 (z_r σ1 r0 21)) (z_x (z_ui σ2 (z_r σ1 r0 21) (1 : Int32).toNatClampNeg v3) (fun σ4 =>
  z_g (z_kd σ4 r0 == 12) (z_g (z_kd σ4 r0 == 12) (z_bI (z_call d 126 [vr r0, vi x1, vi (1 : Int32)] σ4) (fun v6 σ5 =>
  z_g (z_at σ5 (z_r σ4 r0 21) 20 (2 : Int32) && Nat.ble 10 (z_r σ4 r0 21)) (z_x (z_ui σ5 (z_r σ4 r0 21) (2 : Int32).toNatClampNeg v6) (fun σ7 =>
  z_g (z_kd σ7 r0 == 12) (z_g (z_kd σ7 r0 == 12) (z_bI (z_call d 160 [vr r0, vi x1, vi x2] σ7) (fun v9 σ8 =>
  z_g (z_at σ8 (z_r σ7 r0 21) 20 (3 : Int32) && Nat.ble 10 (z_r σ7 r0 21)) (z_x (z_ui σ8 (z_r σ7 r0 21) (3 : Int32).toNatClampNeg v9) (fun σ10 =>
  z_g (z_kd σ10 r0 == 12) (z_g (z_kd σ10 r0 == 12) (z_bI (z_call d 126 [vr r0, vi x1, vi (3 : Int32)] σ10) (fun v12 σ11 =>
  z_g (z_kd σ11 r0 == 12) (z_bI (z_call d 159 [vr r0, vi v12, vi (0 : Int32)] σ11) (fun v14 σ13 =>
  z_g (z_at σ13 (z_r σ10 r0 21) 20 (4 : Int32) && Nat.ble 10 (z_r σ10 r0 21)) (z_x (z_ui σ13 (z_r σ10 r0 21) (4 : Int32).toNatClampNeg v14) (fun σ15 =>
  z_g (z_kd σ15 r0 == 12) (z_g (z_kd σ15 r0 == 12) (z_bI (z_call d 126 [vr r0, vi x1, vi (4 : Int32)] σ15) (fun v17 σ16 =>
  if v17 = (1 : Int32) then
    z_g (z_at σ16 (z_r σ15 r0 21) 20 (5 : Int32) && Nat.ble 10 (z_r σ15 r0 21)) (z_x (z_ui σ16 (z_r σ15 r0 21) (5 : Int32).toNatClampNeg (1 : Int32)) (fun σ24 =>
    z_g (z_kd σ24 r0 == 12) (z_g (z_kd σ24 r0 == 12) (z_bI (z_call d 126 [vr r0, vi x1, vi (3 : Int32)] σ24) (fun v26 σ25 =>
    z_g (z_kd σ25 r0 == 12) (z_bI (z_call d 159 [vr r0, vi v26, vi (1 : Int32)] σ25) (fun v28 σ27 =>
    z_g (z_at σ27 (z_r σ24 r0 21) 20 (6 : Int32) && Nat.ble 10 (z_r σ24 r0 21)) (z_x (z_ui σ27 (z_r σ24 r0 21) (6 : Int32).toNatClampNeg v28) (fun σ29 =>
    some (vi 0, σ29))))))))))
  else
    z_g (z_at σ16 (z_r σ15 r0 21) 20 (5 : Int32) && Nat.ble 10 (z_r σ15 r0 21)) (z_x (z_ui σ16 (z_r σ15 r0 21) (5 : Int32).toNatClampNeg (0 : Int32)) (fun σ18 =>
    z_g (z_kd σ18 r0 == 12) (z_g (z_kd σ18 r0 == 12) (z_bI (z_call d 126 [vr r0, vi x1, vi (3 : Int32)] σ18) (fun v20 σ19 =>
    z_g (z_kd σ19 r0 == 12) (z_bI (z_call d 159 [vr r0, vi v20, vi (1 : Int32)] σ19) (fun v22 σ21 =>
    z_g (z_at σ21 (z_r σ18 r0 21) 20 (6 : Int32) && Nat.ble 10 (z_r σ18 r0 21)) (z_x (z_ui σ21 (z_r σ18 r0 21) (6 : Int32).toNatClampNeg v22) (fun σ23 =>
    some (vi 0, σ23)))))))))))))))))))))))))))))))))))))) := (z_w_eq _ _ _ _ _ _).trans rfl
set_option maxRecDepth 100000 in
theorem e_M_clauseOf (d : Nat) (r0 : Nat) (x1 : Int32) (x2 : Int32) (σ : ZM) : z_call (d + 1) 162 [vr r0, vi x1, vi x2] σ =
  z_w d_M_clauseOf (z_call d) 2 [some (vr r0), some (vi x1), some (vi x2), some (vi (0 : Int32))] [] σ := (z_w_eq _ _ _ _ _ _).trans rfl
set_option maxRecDepth 100000 in
theorem e_M_clauseOf_2 (cl : Nat → List ZV → ZM → ZR) (r0 : Nat) (x1 : Int32) (x2 : Int32) (x3 : Int32) (σ : ZM) : z_w d_M_clauseOf cl 2 [some (vr r0), some (vi x1), some (vi x2), some (vi x3)] [] σ =
  if x1 < 0 then
    some (vi (-1 : Int32), σ)
  else
    z_g (z_kd σ r0 == 12) (z_g (z_at σ (z_r σ r0 2) 20 ((705 : Int32) * x1)) (if x3 < (z_i σ (z_r σ r0 2) ((705 : Int32) * x1).toNatClampNeg) then
      z_g (z_kd σ r0 == 12) (z_g (z_at σ (z_r σ r0 2) 20 ((((705 : Int32) * x1) + (1 : Int32)) + ((4 : Int32) * x3))) (if (z_i σ (z_r σ r0 2) ((((705 : Int32) * x1) + (1 : Int32)) + ((4 : Int32) * x3)).toNatClampNeg) = x2 then
        some (vi x3, σ)
      else
        z_w d_M_clauseOf cl 2 [some (vr r0), some (vi x1), some (vi x2), some (vi (x3 + (1 : Int32)))] [] σ))
    else
      some (vi (-1 : Int32), σ))) := (z_w_eq _ _ _ _ _ _).trans rfl
set_option maxRecDepth 100000 in
theorem e_M_middleOf (d : Nat) (x0 : Int64) (x2 : Int64) (x4 : Int64) (σ : ZM) : z_call (d + 1) 163 [vl x0, vl x2, vl x4] σ =
  if (lg_cmp x0 x2) < 0 then
    if (lg_cmp x0 x2) < 0 then
      if (lg_cmp x4 x0) < 0 then
        some (vl x0, σ)
      else
        if 0 < (lg_cmp x4 x2) then
          some (vl x2, σ)
        else
          some (vl x4, σ)
    else
      if (lg_cmp x4 x0) < 0 then
        some (vl x0, σ)
      else
        if 0 < (lg_cmp x4 x0) then
          some (vl x0, σ)
        else
          some (vl x4, σ)
  else
    if (lg_cmp x0 x2) < 0 then
      if (lg_cmp x4 x2) < 0 then
        some (vl x2, σ)
      else
        if 0 < (lg_cmp x4 x2) then
          some (vl x2, σ)
        else
          some (vl x4, σ)
    else
      if (lg_cmp x4 x2) < 0 then
        some (vl x2, σ)
      else
        if 0 < (lg_cmp x4 x0) then
          some (vl x0, σ)
        else
          some (vl x4, σ) := (z_w_eq _ _ _ _ _ _).trans rfl
set_option maxRecDepth 100000 in
theorem e_M_clip (d : Nat) (x0 : Int64) (σ : ZM) : z_call (d + 1) 164 [vl x0] σ =
  if 0 < (lg_cmp x0 (1000000 : Int64)) then
    some (vl (1000000 : Int64), σ)
  else
    if (lg_cmp x0 (-1000000 : Int64)) < 0 then
      some (vl (-1000000 : Int64), σ)
    else
      some (vl x0, σ) := (z_w_eq _ _ _ _ _ _).trans rfl
set_option maxRecDepth 100000 in
theorem e_M_two (d : Nat) (x0 : Int32) (x1 : Int64) (x3 : Int64) (σ : ZM) : z_call (d + 1) 165 [vi x0, vl x1, vl x3] σ =
  if x0 = (4 : Int32) then
    z_bL (z_call d 164 [vl (x1 + x3)] σ) (fun v2 σ1 =>
    some (vl v2, σ1))
  else if x0 = (5 : Int32) then
    z_bL (z_call d 164 [vl (x1 - x3)] σ) (fun v4 σ3 =>
    some (vl v4, σ3))
  else if x0 = (6 : Int32) then
    z_bL (z_call d 164 [vl (x1 * x3)] σ) (fun v6 σ5 =>
    some (vl v6, σ5))
  else if x0 = (7 : Int32) then
    if (lg_cmp x3 (0 : Int64)) = 0 then
      some (vl (0 : Int64), σ)
    else
      z_g (!(x3 == 0)) (z_bL (z_call d 164 [vl (x1 / x3)] σ) (fun v8 σ7 =>
      some (vl v8, σ7)))
  else if x0 = (8 : Int32) then
    if (lg_cmp x3 (0 : Int64)) = 0 then
      some (vl (0 : Int64), σ)
    else
      z_g (!(x3 == 0)) (some (vl (x1 - x1 / x3 * x3), σ))
  else if (lg_cmp x3 (0 : Int64)) = 0 then
      some (vl (0 : Int64), σ)
    else
      z_g (!(x3 == 0)) (z_bL (z_call d 164 [vl (x1 / x3)] σ) (fun v10 σ9 =>
      some (vl v10, σ9))) := (z_w_eq _ _ _ _ _ _).trans rfl
set_option maxRecDepth 100000 in
theorem e_M_isAsked (d : Nat) (x0 : Int32) (x1 : Int64) (x3 : Int64) (σ : ZM) : z_call (d + 1) 166 [vi x0, vl x1, vl x3] σ =
  if x0 = (10 : Int32) then
    if (lg_cmp x1 x3) < 0 then
      some (vi (1 : Int32), σ)
    else
      some (vi (0 : Int32), σ)
  else
    if x0 = (11 : Int32) then
      if 0 < (lg_cmp x1 x3) then
        some (vi (0 : Int32), σ)
      else
        some (vi (1 : Int32), σ)
    else
      if x0 = (12 : Int32) then
        if 0 < (lg_cmp x1 x3) then
          some (vi (1 : Int32), σ)
        else
          some (vi (0 : Int32), σ)
      else
        if x0 = (13 : Int32) then
          if (lg_cmp x1 x3) < 0 then
            some (vi (0 : Int32), σ)
          else
            some (vi (1 : Int32), σ)
        else
          if x0 = (14 : Int32) then
            if (lg_cmp x1 x3) = 0 then
              some (vi (1 : Int32), σ)
            else
              some (vi (0 : Int32), σ)
          else
            if (lg_cmp x1 x3) = 0 then
              some (vi (0 : Int32), σ)
            else
              some (vi (1 : Int32), σ) := (z_w_eq _ _ _ _ _ _).trans rfl
set_option maxRecDepth 100000 in
theorem e_M_work (d : Nat) (r0 : Nat) (x1 : Int32) (x2 : Int32) (σ : ZM) : z_call (d + 1) 167 [vr r0, vi x1, vi x2] σ =
  z_x ((((705 : Int32) * x1) + (1 : Int32)) + ((4 : Int32) * x2)) (fun u1 => z_x (((705 : Int32) * x1) + (97 : Int32)) (fun u2 => z_g (z_kd σ r0 == 12) (z_g (z_at σ (z_r σ r0 2) 20 (u1 + (1 : Int32))) (z_x (z_i σ (z_r σ r0 2) (u1 + (1 : Int32)).toNatClampNeg) (fun u3 => z_w d_M_work (z_call d) 38 [some (vr r0), none, none, some (vi u1), some (vi u2), some (vi (0 : Int32)), some (vi (0 : Int32)), some (vi u3), none, none] [] σ))))) := (z_w_eq _ _ _ _ _ _).trans rfl
set_option maxRecDepth 100000 in
theorem e_M_work_38 (cl : Nat → List ZV → ZM → ZR) (r0 : Nat) (x3 : Int32) (x4 : Int32) (x5 : Int32) (x6 : Int32) (x7 : Int32) (σ : ZM) : z_w d_M_work cl 38 [some (vr r0), none, none, some (vi x3), some (vi x4), some (vi x5), some (vi x6), some (vi x7), none, none] [] σ =
  z_g (z_kd σ r0 == 12) (z_g (z_at σ (z_r σ r0 2) 20 (x3 + (2 : Int32))) (if x7 < (z_i σ (z_r σ r0 2) (x3 + (2 : Int32)).toNatClampNeg) then
    z_g (z_kd σ r0 == 12) (z_g (z_at σ (z_r σ r0 2) 20 (x4 + ((2 : Int32) * x7))) (z_x (z_i σ (z_r σ r0 2) (x4 + ((2 : Int32) * x7)).toNatClampNeg) (fun u1 => z_g (z_kd σ r0 == 12) (z_g (z_at σ (z_r σ r0 2) 20 ((x4 + ((2 : Int32) * x7)) + (1 : Int32))) (z_x (z_i σ (z_r σ r0 2) ((x4 + ((2 : Int32) * x7)) + (1 : Int32)).toNatClampNeg) (fun u2 => if (1 : Int32) < u1 then
      if u1 = (2 : Int32) then
        z_x (x5 + (-2 : Int32)) (fun u21 => z_g (z_kd σ r0 == 12) (z_g (z_kd σ r0 == 12) (z_g (z_at σ (z_r σ r0 22) 23 (u21 - (1 : Int32))) (z_g (z_kd σ r0 == 12) (z_g (z_at σ (z_r σ r0 22) 23 u21) (z_g (z_kd σ r0 == 12) (z_g (z_at σ (z_r σ r0 22) 23 (u21 + (1 : Int32))) (z_bL (cl 163 [vl (z_l σ (z_r σ r0 22) (u21 - (1 : Int32)).toNatClampNeg), vl (z_l σ (z_r σ r0 22) u21.toNatClampNeg), vl (z_l σ (z_r σ r0 22) (u21 + (1 : Int32)).toNatClampNeg)] σ) (fun v23 σ22 =>
        z_g (z_at σ22 (z_r σ r0 22) 23 (u21 - (1 : Int32)) && Nat.ble 10 (z_r σ r0 22)) (z_x (z_ul σ22 (z_r σ r0 22) (u21 - (1 : Int32)).toNatClampNeg v23) (fun σ24 =>
        z_w d_M_work cl 395 [some (vr r0), none, none, some (vi x3), some (vi x4), some (vi u21), some (vi x6), some (vi x7), none, none] [] σ24)))))))))))
      else
        if u1 = (3 : Int32) then
          z_g (z_kd σ r0 == 12) (z_g (z_kd σ r0 == 12) (z_g (z_at σ (z_r σ r0 22) 23 (x5 - (1 : Int32))) (z_g (z_at σ (z_r σ r0 22) 23 (x5 - (1 : Int32)) && Nat.ble 10 (z_r σ r0 22)) (z_x (z_ul σ (z_r σ r0 22) (x5 - (1 : Int32)).toNatClampNeg (-(z_l σ (z_r σ r0 22) (x5 - (1 : Int32)).toNatClampNeg))) (fun σ20 =>
          z_w d_M_work cl 395 [some (vr r0), none, none, some (vi x3), some (vi x4), some (vi x5), some (vi x6), some (vi x7), none, none] [] σ20)))))
        else
          if u1 < (10 : Int32) then
            z_x (x5 + (-1 : Int32)) (fun u16 => z_g (z_kd σ r0 == 12) (z_g (z_kd σ r0 == 12) (z_g (z_at σ (z_r σ r0 22) 23 (u16 - (1 : Int32))) (z_g (z_kd σ r0 == 12) (z_g (z_at σ (z_r σ r0 22) 23 u16) (z_bL (cl 165 [vi u1, vl (z_l σ (z_r σ r0 22) (u16 - (1 : Int32)).toNatClampNeg), vl (z_l σ (z_r σ r0 22) u16.toNatClampNeg)] σ) (fun v18 σ17 =>
            z_g (z_at σ17 (z_r σ r0 22) 23 (u16 - (1 : Int32)) && Nat.ble 10 (z_r σ r0 22)) (z_x (z_ul σ17 (z_r σ r0 22) (u16 - (1 : Int32)).toNatClampNeg v18) (fun σ19 =>
            z_w d_M_work cl 395 [some (vr r0), none, none, some (vi x3), some (vi x4), some (vi u16), some (vi x6), some (vi x7), none, none] [] σ19)))))))))
          else
            if u1 < (20 : Int32) then
              z_x (x5 + (-2 : Int32)) (fun u12 => z_g (z_kd σ r0 == 12) (z_g (z_kd σ r0 == 12) (z_g (z_at σ (z_r σ r0 22) 23 u12) (z_g (z_kd σ r0 == 12) (z_g (z_at σ (z_r σ r0 22) 23 (u12 + (1 : Int32))) (z_bI (cl 166 [vi u1, vl (z_l σ (z_r σ r0 22) u12.toNatClampNeg), vl (z_l σ (z_r σ r0 22) (u12 + (1 : Int32)).toNatClampNeg)] σ) (fun v14 σ13 =>
              z_g ((z_at σ13 (z_r σ r0 23) 21 x6 || z_at σ13 (z_r σ r0 23) 22 x6) && Nat.ble 10 (z_r σ r0 23)) (z_x (z_ui σ13 (z_r σ r0 23) x6.toNatClampNeg (z_bv σ13 (z_r σ r0 23) v14)) (fun σ15 =>
              z_w d_M_work cl 395 [some (vr r0), none, none, some (vi x3), some (vi x4), some (vi u12), some (vi (x6 + (1 : Int32))), some (vi x7), none, none] [] σ15)))))))))
            else
              if u1 = (20 : Int32) then
                z_g (z_kd σ r0 == 12) (z_g (z_kd σ r0 == 12) (z_g (z_at σ (z_r σ r0 23) 21 (x6 - (1 : Int32)) || z_at σ (z_r σ r0 23) 22 (x6 - (1 : Int32))) (if (z_i σ (z_r σ r0 23) (x6 - (1 : Int32)).toNatClampNeg) = 0 then
                  z_g ((z_at σ (z_r σ r0 23) 21 (x6 - (1 : Int32)) || z_at σ (z_r σ r0 23) 22 (x6 - (1 : Int32))) && Nat.ble 10 (z_r σ r0 23)) (z_x (z_ui σ (z_r σ r0 23) (x6 - (1 : Int32)).toNatClampNeg (z_bv σ (z_r σ r0 23) (1 : Int32))) (fun σ11 =>
                  z_w d_M_work cl 395 [some (vr r0), none, none, some (vi x3), some (vi x4), some (vi x5), some (vi x6), some (vi x7), none, none] [] σ11))
                else
                  z_g ((z_at σ (z_r σ r0 23) 21 (x6 - (1 : Int32)) || z_at σ (z_r σ r0 23) 22 (x6 - (1 : Int32))) && Nat.ble 10 (z_r σ r0 23)) (z_x (z_ui σ (z_r σ r0 23) (x6 - (1 : Int32)).toNatClampNeg (z_bv σ (z_r σ r0 23) (0 : Int32))) (fun σ10 =>
                  z_w d_M_work cl 395 [some (vr r0), none, none, some (vi x3), some (vi x4), some (vi x5), some (vi x6), some (vi x7), none, none] [] σ10)))))
              else
                z_x (x6 + (-1 : Int32)) (fun u3 => z_g (z_kd σ r0 == 12) (if u1 = (21 : Int32) then
                  z_g (z_kd σ r0 == 12) (z_g (z_at σ (z_r σ r0 23) 21 (u3 - (1 : Int32)) || z_at σ (z_r σ r0 23) 22 (u3 - (1 : Int32))) (if (z_i σ (z_r σ r0 23) (u3 - (1 : Int32)).toNatClampNeg) = 0 then
                    z_g ((z_at σ (z_r σ r0 23) 21 (u3 - (1 : Int32)) || z_at σ (z_r σ r0 23) 22 (u3 - (1 : Int32))) && Nat.ble 10 (z_r σ r0 23)) (z_x (z_ui σ (z_r σ r0 23) (u3 - (1 : Int32)).toNatClampNeg (z_bv σ (z_r σ r0 23) (0 : Int32))) (fun σ7 =>
                    z_w d_M_work cl 395 [some (vr r0), none, none, some (vi x3), some (vi x4), some (vi x5), some (vi u3), some (vi x7), none, none] [] σ7))
                  else
                    z_g (z_kd σ r0 == 12) (z_g (z_at σ (z_r σ r0 23) 21 u3 || z_at σ (z_r σ r0 23) 22 u3) (if (z_i σ (z_r σ r0 23) u3.toNatClampNeg) = 0 then
                      z_g ((z_at σ (z_r σ r0 23) 21 (u3 - (1 : Int32)) || z_at σ (z_r σ r0 23) 22 (u3 - (1 : Int32))) && Nat.ble 10 (z_r σ r0 23)) (z_x (z_ui σ (z_r σ r0 23) (u3 - (1 : Int32)).toNatClampNeg (z_bv σ (z_r σ r0 23) (0 : Int32))) (fun σ8 =>
                      z_w d_M_work cl 395 [some (vr r0), none, none, some (vi x3), some (vi x4), some (vi x5), some (vi u3), some (vi x7), none, none] [] σ8))
                    else
                      z_g ((z_at σ (z_r σ r0 23) 21 (u3 - (1 : Int32)) || z_at σ (z_r σ r0 23) 22 (u3 - (1 : Int32))) && Nat.ble 10 (z_r σ r0 23)) (z_x (z_ui σ (z_r σ r0 23) (u3 - (1 : Int32)).toNatClampNeg (z_bv σ (z_r σ r0 23) (1 : Int32))) (fun σ9 =>
                      z_w d_M_work cl 395 [some (vr r0), none, none, some (vi x3), some (vi x4), some (vi x5), some (vi u3), some (vi x7), none, none] [] σ9))))))
                else
                  z_g (z_kd σ r0 == 12) (z_g (z_at σ (z_r σ r0 23) 21 (u3 - (1 : Int32)) || z_at σ (z_r σ r0 23) 22 (u3 - (1 : Int32))) (if (z_i σ (z_r σ r0 23) (u3 - (1 : Int32)).toNatClampNeg) = 0 then
                    z_g (z_kd σ r0 == 12) (z_g (z_at σ (z_r σ r0 23) 21 u3 || z_at σ (z_r σ r0 23) 22 u3) (if (z_i σ (z_r σ r0 23) u3.toNatClampNeg) = 0 then
                      z_g ((z_at σ (z_r σ r0 23) 21 (u3 - (1 : Int32)) || z_at σ (z_r σ r0 23) 22 (u3 - (1 : Int32))) && Nat.ble 10 (z_r σ r0 23)) (z_x (z_ui σ (z_r σ r0 23) (u3 - (1 : Int32)).toNatClampNeg (z_bv σ (z_r σ r0 23) (0 : Int32))) (fun σ5 =>
                      z_w d_M_work cl 395 [some (vr r0), none, none, some (vi x3), some (vi x4), some (vi x5), some (vi u3), some (vi x7), none, none] [] σ5))
                    else
                      z_g ((z_at σ (z_r σ r0 23) 21 (u3 - (1 : Int32)) || z_at σ (z_r σ r0 23) 22 (u3 - (1 : Int32))) && Nat.ble 10 (z_r σ r0 23)) (z_x (z_ui σ (z_r σ r0 23) (u3 - (1 : Int32)).toNatClampNeg (z_bv σ (z_r σ r0 23) (1 : Int32))) (fun σ6 =>
                      z_w d_M_work cl 395 [some (vr r0), none, none, some (vi x3), some (vi x4), some (vi x5), some (vi u3), some (vi x7), none, none] [] σ6))))
                  else
                    z_g ((z_at σ (z_r σ r0 23) 21 (u3 - (1 : Int32)) || z_at σ (z_r σ r0 23) 22 (u3 - (1 : Int32))) && Nat.ble 10 (z_r σ r0 23)) (z_x (z_ui σ (z_r σ r0 23) (u3 - (1 : Int32)).toNatClampNeg (z_bv σ (z_r σ r0 23) (1 : Int32))) (fun σ4 =>
                    z_w d_M_work cl 395 [some (vr r0), none, none, some (vi x3), some (vi x4), some (vi x5), some (vi u3), some (vi x7), none, none] [] σ4))))))
    else
      z_g (z_kd σ r0 == 12) (if u1 = 0 then
        z_g (z_at σ (z_r σ r0 22) 23 x5 && Nat.ble 10 (z_r σ r0 22)) (z_x (z_ul σ (z_r σ r0 22) x5.toNatClampNeg (u2.toInt64)) (fun σ26 =>
        z_w d_M_work cl 395 [some (vr r0), none, none, some (vi x3), some (vi x4), some (vi (x5 + (1 : Int32))), some (vi x6), some (vi x7), none, none] [] σ26))
      else
        z_g (z_kd σ r0 == 12) (z_g (z_at σ (z_r σ r0 21) 20 u2) (z_g (z_at σ (z_r σ r0 22) 23 x5 && Nat.ble 10 (z_r σ r0 22)) (z_x (z_ul σ (z_r σ r0 22) x5.toNatClampNeg ((z_i σ (z_r σ r0 21) u2.toNatClampNeg).toInt64)) (fun σ25 =>
        z_w d_M_work cl 395 [some (vr r0), none, none, some (vi x3), some (vi x4), some (vi (x5 + (1 : Int32))), some (vi x6), some (vi x7), none, none] [] σ25)))))))))))
  else
    some (vi 0, σ))) := (z_w_eq _ _ _ _ _ _).trans rfl
set_option maxRecDepth 100000 in
theorem e_M_work_395 (cl : Nat → List ZV → ZM → ZR) (r0 : Nat) (x3 : Int32) (x4 : Int32) (x5 : Int32) (x6 : Int32) (x7 : Int32) (σ : ZM) : z_w d_M_work cl 395 [some (vr r0), none, none, some (vi x3), some (vi x4), some (vi x5), some (vi x6), some (vi x7), none, none] [] σ =
  z_w d_M_work cl 38 [some (vr r0), none, none, some (vi x3), some (vi x4), some (vi x5), some (vi x6), some (vi (x7 + (1 : Int32))), none, none] [] σ := (z_w_eq _ _ _ _ _ _).trans rfl
set_option maxRecDepth 100000 in
theorem e_M_says (d : Nat) (r0 : Nat) (x1 : Int32) (x2 : Int32) (x3 : Int32) (x4 : Int32) (σ : ZM) : z_call (d + 1) 168 [vr r0, vi x1, vi x2, vi x3, vi x4] σ =
  z_g (z_kd σ r0 == 12) (z_g (z_at σ (z_r σ r0 0) 20 (6 : Int32)) (z_g (z_kd σ r0 == 12) (z_bI (z_call d 162 [vr r0, vi (z_i σ (z_r σ r0 0) (6 : Int32).toNatClampNeg), vi x1] σ) (fun v2 σ1 =>
  if v2 < 0 then
    some (vi x2, σ1)
  else
    z_g (z_kd σ1 r0 == 12) (z_g (z_at σ1 (z_r σ1 r0 0) 20 (6 : Int32)) (z_g (z_kd σ1 r0 == 12) (z_bV (z_call d 167 [vr r0, vi (z_i σ1 (z_r σ1 r0 0) (6 : Int32).toNatClampNeg), vi v2] σ1) (fun σ3 =>
    z_g (z_kd σ3 r0 == 12) (z_g (z_at σ3 (z_r σ3 r0 22) 23 (0 : Int32)) (if (lg_cmp (z_l σ3 (z_r σ3 r0 22) (0 : Int32).toNatClampNeg) (x3.toInt64)) < 0 then
      some (vi x3, σ3)
    else
      z_g (z_kd σ3 r0 == 12) (z_g (z_at σ3 (z_r σ3 r0 22) 23 (0 : Int32)) (if 0 < (lg_cmp (z_l σ3 (z_r σ3 r0 22) (0 : Int32).toNatClampNeg) (x4.toInt64)) then
        some (vi x4, σ3)
      else
        z_g (z_kd σ3 r0 == 12) (z_g (z_at σ3 (z_r σ3 r0 22) 23 (0 : Int32)) (some (vi ((z_l σ3 (z_r σ3 r0 22) (0 : Int32).toNatClampNeg).toInt32), σ3))))))))))))))) := (z_w_eq _ _ _ _ _ _).trans rfl
set_option maxRecDepth 100000 in
theorem e_M_passesOf (d : Nat) (r0 : Nat) (x1 : Int32) (σ : ZM) : z_call (d + 1) 169 [vr r0, vi x1] σ =
  z_g (z_kd σ r0 == 12) (z_g (z_at σ (z_r σ r0 0) 20 (3 : Int32)) (z_g (z_kd σ r0 == 12) (z_bV (z_call d 161 [vr r0, vi x1, vi (z_i σ (z_r σ r0 0) (3 : Int32).toNatClampNeg)] σ) (fun σ1 =>
  z_g (z_kd σ1 r0 == 12) (z_bI (z_call d 168 [vr r0, vi (1 : Int32), vi (3 : Int32), vi (0 : Int32), vi (10 : Int32)] σ1) (fun v3 σ2 =>
  some (vi v3, σ2))))))) := (z_w_eq _ _ _ _ _ _).trans rfl
set_option maxRecDepth 100000 in
theorem e_M_coughNow (d : Nat) (r0 : Nat) (x1 : Int32) (σ : ZM) : z_call (d + 1) 170 [vr r0, vi x1] σ =
  z_g (z_kd σ r0 == 12) (z_bI (z_call d 156 [vr r0, vi x1] σ) (fun v2 σ1 =>
  z_w d_M_coughNow (z_call d) 8 [some (vr r0), some (vi x1), some (vi v2), some (vi (1 : Int32)), none, none] [] σ1)) := (z_w_eq _ _ _ _ _ _).trans rfl
set_option maxRecDepth 100000 in
theorem e_M_coughNow_8 (cl : Nat → List ZV → ZM → ZR) (r0 : Nat) (x1 : Int32) (x2 : Int32) (x3 : Int32) (σ : ZM) : z_w d_M_coughNow cl 8 [some (vr r0), some (vi x1), some (vi x2), some (vi x3), none, none] [] σ =
  if x3 < (-1 : Int32) then
    some (vi x2, σ)
  else
    z_g (z_kd σ r0 == 12) (z_bI (cl 126 [vr r0, vi x1, vi (3 : Int32)] σ) (fun v2 σ1 =>
    if v2 = (-1 : Int32) then
      some (vi x2, σ1)
    else
      z_g (z_kd σ1 r0 == 12) (z_bI (cl 126 [vr r0, vi x1, vi (3 : Int32)] σ1) (fun v4 σ3 =>
      z_g (z_kd σ3 r0 == 12) (z_bI (cl 128 [vr r0, vi (v4 + x3)] σ3) (fun v6 σ5 =>
      z_w d_M_coughNow cl 40 [some (vr r0), some (vi x1), some (vi x2), some (vi x3), some (vi x1), some (vi v6)] [] σ5)))))) := (z_w_eq _ _ _ _ _ _).trans rfl
set_option maxRecDepth 100000 in
theorem e_M_coughNow_40 (cl : Nat → List ZV → ZM → ZR) (r0 : Nat) (x1 : Int32) (x2 : Int32) (x3 : Int32) (x4 : Int32) (x5 : Int32) (σ : ZM) : z_w d_M_coughNow cl 40 [some (vr r0), some (vi x1), some (vi x2), some (vi x3), some (vi x4), some (vi x5)] [] σ =
  if x5 = (-1 : Int32) then
    z_w d_M_coughNow cl 8 [some (vr r0), some (vi x1), some (vi x2), some (vi (x3 + (-2 : Int32))), none, none] [] σ
  else
    z_g (z_kd σ r0 == 12) (z_bI (cl 126 [vr r0, vi x4, vi (3 : Int32)] σ) (fun v2 σ1 =>
    if (v2 + x3) < 0 then
      z_w d_M_coughNow cl 8 [some (vr r0), some (vi x1), some (vi x2), some (vi (x3 + (-2 : Int32))), none, none] [] σ1
    else
      z_g (z_kd σ1 r0 == 12) (z_bI (cl 158 [vr r0] σ1) (fun v4 σ3 =>
      z_g (z_kd σ3 r0 == 12) (z_bI (cl 169 [vr r0, vi x4] σ3) (fun v6 σ5 =>
      if v4 < v6 then
        z_g (z_kd σ5 r0 == 12) (z_bI (cl 156 [vr r0, vi x5] σ5) (fun v8 σ7 =>
        z_x (x2 + v8) (fun u9 => z_g (z_kd σ7 r0 == 12) (z_bI (cl 126 [vr r0, vi x5, vi (3 : Int32)] σ7) (fun v11 σ10 =>
        if (v11 + x3) < 0 then
          z_w d_M_coughNow cl 40 [some (vr r0), some (vi x1), some (vi u9), some (vi x3), some (vi x5), some (vi (-1 : Int32))] [] σ10
        else
          z_g (z_kd σ10 r0 == 12) (z_bI (cl 126 [vr r0, vi x5, vi (3 : Int32)] σ10) (fun v13 σ12 =>
          z_g (z_kd σ12 r0 == 12) (z_bI (cl 128 [vr r0, vi (v13 + x3)] σ12) (fun v15 σ14 =>
          z_w d_M_coughNow cl 40 [some (vr r0), some (vi x1), some (vi u9), some (vi x3), some (vi x5), some (vi v15)] [] σ14)))))))))
      else
        z_w d_M_coughNow cl 8 [some (vr r0), some (vi x1), some (vi x2), some (vi (x3 + (-2 : Int32))), none, none] [] σ5)))))) := (z_w_eq _ _ _ _ _ _).trans rfl
set_option maxRecDepth 100000 in
theorem e_M_cough (d : Nat) (r0 : Nat) (x1 : Int32) (σ : ZM) : z_call (d + 1) 171 [vr r0, vi x1] σ =
  z_g (z_kd σ r0 == 12) (z_bI (z_call d 125 [vr r0, vi x1] σ) (fun v2 σ1 =>
  if v2 = 0 then
    some (vi (-1 : Int32), σ1)
  else
    z_g (z_kd σ1 r0 == 12) (z_g (z_at σ1 (z_r σ1 r0 0) 20 (3 : Int32)) (z_g (z_kd σ1 r0 == 12) (z_bI (z_call d 155 [vr r0, vi x1, vi (z_i σ1 (z_r σ1 r0 0) (3 : Int32).toNatClampNeg)] σ1) (fun v4 σ3 =>
    if v4 = 0 then
      z_g (z_kd σ3 r0 == 12) (z_bV (z_call d 129 [vr r0] σ3) (fun σ5 =>
      z_g (z_kd σ5 r0 == 12) (z_bI (z_call d 170 [vr r0, vi x1] σ5) (fun v7 σ6 =>
      some (vi v7, σ6)))))
    else
      some (vi (-1 : Int32), σ3))))))) := (z_w_eq _ _ _ _ _ _).trans rfl
set_option maxRecDepth 100000 in
theorem e_De_passBeats (d : Nat) (r0 : Nat) (x1 : Int32) (σ : ZM) : z_call (d + 1) 172 [vr r0, vi x1] σ =
  z_bI (z_call d 16 [vi x1, vi (1 : Int32), vi (999 : Int32)] σ) (fun v2 σ1 =>
  if v2 = 0 then
    some (vi (-1 : Int32), σ1)
  else
    z_g (z_kd σ1 r0 == 2) (z_g (z_kd σ1 (z_r σ1 r0 1) == 5) (if (9999 : Int32) < ((z_i σ1 (z_r σ1 r0 1) 3) + x1) then
      some (vi (-1 : Int32), σ1)
    else
      z_g (z_kd σ1 r0 == 2) (z_g (z_kd σ1 r0 == 2) (z_g (z_kd σ1 (z_r σ1 r0 2) == 8) (z_bV (z_call d 122 [vr (z_r σ1 r0 2), vr (z_r σ1 r0 1)] σ1) (fun σ3 =>
      z_g (z_kd σ3 r0 == 2) (z_x (z_r σ3 r0 1) (fun u4 => z_g (z_kd σ3 u4 == 5) (z_g (z_kd σ3 u4 == 5) (z_x (z_ui σ3 u4 3 ((z_i σ3 u4 3) + x1)) (fun σ5 =>
      z_g (z_kd σ5 r0 == 2) (z_g (z_kd σ5 (z_r σ5 r0 1) == 5) (some (vi (z_i σ5 (z_r σ5 r0 1) 3), σ5))))))))))))))) := (z_w_eq _ _ _ _ _ _).trans rfl
set_option maxRecDepth 100000 in
theorem e_B_beat (d : Nat) (r0 : Nat) (x1 : Int32) (σ : ZM) : z_call (d + 1) 173 [vr r0, vi x1] σ =
  z_g (z_kd σ r0 == 11) (z_g (z_kd σ (z_r σ r0 12) == 2) (z_bI (z_call d 172 [vr (z_r σ r0 12), vi x1] σ) (fun v2 σ1 =>
  some (vi v2, σ1)))) := (z_w_eq _ _ _ _ _ _).trans rfl
set_option maxRecDepth 100000 in
theorem e_M_beat (d : Nat) (r0 : Nat) (x1 : Int32) (σ : ZM) : z_call (d + 1) 174 [vr r0, vi x1] σ =
  z_bI (z_call d 19 [vi x1, vi (1 : Int32), vi (999 : Int32)] σ) (fun v2 σ1 =>
  if v2 = 0 then
    some (vi (-1 : Int32), σ1)
  else
    z_g (z_kd σ1 r0 == 12) (z_g (z_at σ1 (z_r σ1 r0 0) 20 (3 : Int32)) (if (9999 : Int32) < ((z_i σ1 (z_r σ1 r0 0) (3 : Int32).toNatClampNeg) + x1) then
      some (vi (-1 : Int32), σ1)
    else
      z_g (z_kd σ1 r0 == 12) (z_bV (z_call d 129 [vr r0] σ1) (fun σ3 =>
      z_g (z_kd σ3 r0 == 12) (z_x (z_r σ3 r0 0) (fun u4 => z_g (z_at σ3 u4 20 (3 : Int32)) (z_g (z_at σ3 u4 20 (3 : Int32) && Nat.ble 10 u4) (z_x (z_ui σ3 u4 (3 : Int32).toNatClampNeg ((z_i σ3 u4 (3 : Int32).toNatClampNeg) + x1)) (fun σ5 =>
      z_g (z_kd σ5 r0 == 12) (z_g (z_at σ5 (z_r σ5 r0 0) 20 (3 : Int32)) (some (vi (z_i σ5 (z_r σ5 r0 0) (3 : Int32).toNatClampNeg), σ5))))))))))))) := (z_w_eq _ _ _ _ _ _).trans rfl
set_option maxRecDepth 100000 in
theorem e_De_doClause (d : Nat) (r0 : Nat) (r1 : Nat) (x2 : Int32) (σ : ZM) : z_call (d + 1) 175 [vr r0, vr r1, vi x2] σ =
  z_x (x2 * (4 : Int32)) (fun u1 => if u1 < 0 then
    some (vi (0 : Int32), σ)
  else
    z_g (z_kd σ r1 == 9) (z_g (Nat.ble 20 (z_kd σ (z_r σ r1 3)) && Nat.ble (z_kd σ (z_r σ r1 3)) 24) (if (nI (z_ln σ (z_r σ r1 3))) < (u1 + (4 : Int32)) then
      some (vi (0 : Int32), σ)
    else
      z_g (z_kd σ r1 == 9) (z_g (z_at σ (z_r σ r1 3) 20 (u1 + (1 : Int32))) (z_x (z_i σ (z_r σ r1 3) (u1 + (1 : Int32)).toNatClampNeg) (fun u2 => z_g (z_kd σ r1 == 9) (z_g (z_at σ (z_r σ r1 3) 20 (u1 + (2 : Int32))) (z_x (z_i σ (z_r σ r1 3) (u1 + (2 : Int32)).toNatClampNeg) (fun u3 => z_g (z_kd σ r1 == 9) (z_g (z_at σ (z_r σ r1 3) 20 u1) (if (z_i σ (z_r σ r1 3) u1.toNatClampNeg) = (18 : Int32) then
        z_g (z_kd σ r0 == 2) (z_bI (z_call d 172 [vr r0, vi u2] σ) (fun v5 σ4 =>
        if v5 = (-1 : Int32) then
          some (vi (0 : Int32), σ4)
        else
          some (vi (1 : Int32), σ4)))
      else if (z_i σ (z_r σ r1 3) u1.toNatClampNeg) = (19 : Int32) then
        some (vi (1 : Int32), σ)
      else if (z_i σ (z_r σ r1 3) u1.toNatClampNeg) = (20 : Int32) then
        some (vi (1 : Int32), σ)
      else if (z_i σ (z_r σ r1 3) u1.toNatClampNeg) = (21 : Int32) then
        some (vi (1 : Int32), σ)
      else if (z_i σ (z_r σ r1 3) u1.toNatClampNeg) = (22 : Int32) then
        some (vi (1 : Int32), σ)
      else if (z_i σ (z_r σ r1 3) u1.toNatClampNeg) = (23 : Int32) then
        some (vi (1 : Int32), σ)
      else if (z_i σ (z_r σ r1 3) u1.toNatClampNeg) = (24 : Int32) then
        some (vi (1 : Int32), σ)
      else if (z_i σ (z_r σ r1 3) u1.toNatClampNeg) = (25 : Int32) then
        some (vi (1 : Int32), σ)
      else if (z_i σ (z_r σ r1 3) u1.toNatClampNeg) = (26 : Int32) then
        some (vi (1 : Int32), σ)
      else if (z_i σ (z_r σ r1 3) u1.toNatClampNeg) = (27 : Int32) then
        z_g (z_kd σ r0 == 2) (z_g (z_kd σ (z_r σ r0 0) == 4) (z_bI (z_call d 25 [vr (z_r σ r0 0), vi u2, vi u3] σ) (fun v7 σ6 =>
        if v7 = (-1 : Int32) then
          some (vi (0 : Int32), σ6)
        else
          some (vi (1 : Int32), σ6))))
      else if (z_i σ (z_r σ r1 3) u1.toNatClampNeg) = (28 : Int32) then
        some (vi (1 : Int32), σ)
      else if (z_i σ (z_r σ r1 3) u1.toNatClampNeg) = (29 : Int32) then
        some (vi (1 : Int32), σ)
      else if (z_i σ (z_r σ r1 3) u1.toNatClampNeg) = (30 : Int32) then
        some (vi (1 : Int32), σ)
      else if (z_i σ (z_r σ r1 3) u1.toNatClampNeg) = (31 : Int32) then
        z_g (z_kd σ r0 == 2) (z_g (z_kd σ (z_r σ r0 0) == 4) (z_bI (z_call d 17 [vr (z_r σ r0 0), vi u2, vi u3] σ) (fun v9 σ8 =>
        if v9 = (-1 : Int32) then
          some (vi (0 : Int32), σ8)
        else
          some (vi (1 : Int32), σ8))))
      else if (z_i σ (z_r σ r1 3) u1.toNatClampNeg) = (32 : Int32) then
        z_g (z_kd σ r0 == 2) (z_g (z_kd σ r1 == 9) (z_g (z_at σ (z_r σ r1 3) 20 (u1 + (3 : Int32))) (z_g (z_kd σ (z_r σ r0 0) == 4) (z_bI (z_call d 21 [vr (z_r σ r0 0), vi u2, vi u3, vi (z_i σ (z_r σ r1 3) (u1 + (3 : Int32)).toNatClampNeg)] σ) (fun v11 σ10 =>
        if v11 = (-1 : Int32) then
          some (vi (0 : Int32), σ10)
        else
          some (vi (1 : Int32), σ10))))))
      else if (z_i σ (z_r σ r1 3) u1.toNatClampNeg) = (33 : Int32) then
        z_g (z_kd σ r0 == 2) (z_bI (z_call d 123 [vr r0, vi u2, vi u3] σ) (fun v13 σ12 =>
        z_g (z_fit 1 v13) (some (vi v13, σ12))))
      else if (z_i σ (z_r σ r1 3) u1.toNatClampNeg) = (34 : Int32) then
        z_g (z_kd σ r0 == 2) (z_bI (z_call d 134 [vr r0, vi u2, vi (1 : Int32)] σ) (fun v15 σ14 =>
        z_g (z_fit 1 v15) (some (vi v15, σ14))))
      else if (z_i σ (z_r σ r1 3) u1.toNatClampNeg) = (35 : Int32) then
        z_g (z_kd σ r0 == 2) (z_bI (z_call d 134 [vr r0, vi u2, vi (0 : Int32)] σ) (fun v17 σ16 =>
        z_g (z_fit 1 v17) (some (vi v17, σ16))))
      else if (z_i σ (z_r σ r1 3) u1.toNatClampNeg) = (36 : Int32) then
        z_g (z_kd σ r0 == 2) (z_bI (z_call d 134 [vr r0, vi u2, vi (2 : Int32)] σ) (fun v19 σ18 =>
        z_g (z_fit 1 v19) (some (vi v19, σ18))))
      else if (z_i σ (z_r σ r1 3) u1.toNatClampNeg) = (37 : Int32) then
        z_g (z_kd σ r0 == 2) (z_bI (z_call d 138 [vr r0, vi u2, vi (1 : Int32)] σ) (fun v21 σ20 =>
        z_g (z_fit 1 v21) (some (vi v21, σ20))))
      else if (z_i σ (z_r σ r1 3) u1.toNatClampNeg) = (38 : Int32) then
        z_g (z_kd σ r0 == 2) (z_bI (z_call d 153 [vr r0, vi u2] σ) (fun v23 σ22 =>
        if v23 = (-1 : Int32) then
          some (vi (0 : Int32), σ22)
        else
          some (vi (1 : Int32), σ22)))
      else some (vi (1 : Int32), σ)))))))))))) := (z_w_eq _ _ _ _ _ _).trans rfl
set_option maxRecDepth 100000 in
theorem e_B_played (d : Nat) (r0 : Nat) (x1 : Int32) (σ : ZM) : z_call (d + 1) 176 [vr r0, vi x1] σ =
  z_g (z_kd σ r0 == 11) (z_g (z_kd σ (z_r σ r0 0) == 4) (z_bR (z_call d 327 [vr (z_r σ r0 0), vi x1] σ) (fun v2 σ1 =>
  z_g (!(v2 == 9)) (if v2 = 0 then
    some (vi (-2 : Int32), σ1)
  else
    z_w d_B_played (z_call d) 18 [some (vr r0), none, some (vr v2), some (vi (0 : Int32))] [] σ1)))) := (z_w_eq _ _ _ _ _ _).trans rfl
set_option maxRecDepth 100000 in
theorem e_B_played_18 (cl : Nat → List ZV → ZM → ZR) (r0 : Nat) (r2 : Nat) (x3 : Int32) (σ : ZM) : z_w d_B_played cl 18 [some (vr r0), none, some (vr r2), some (vi x3)] [] σ =
  z_g (z_kd σ r2 == 9) (if x3 < (z_i σ r2 4) then
    z_g (z_kd σ r0 == 11) (z_g (z_kd σ (z_r σ r0 12) == 2) (z_bI (cl 175 [vr (z_r σ r0 12), vr r2, vi x3] σ) (fun v2 σ1 =>
    if v2 = 0 then
      some (vi x3, σ1)
    else
      z_w d_B_played cl 18 [some (vr r0), none, some (vr r2), some (vi (x3 + (1 : Int32)))] [] σ1)))
  else
    some (vi (-1 : Int32), σ)) := (z_w_eq _ _ _ _ _ _).trans rfl
set_option maxRecDepth 100000 in
theorem e_M_isPlayed (d : Nat) (r0 : Nat) (x1 : Int32) (σ : ZM) : z_call (d + 1) 177 [vr r0, vi x1] σ =
  z_g (z_kd σ r0 == 12) (z_g (z_at σ (z_r σ r0 2) 20 (x1 + (1 : Int32))) (z_x (z_i σ (z_r σ r0 2) (x1 + (1 : Int32)).toNatClampNeg) (fun u1 => z_g (z_kd σ r0 == 12) (z_g (z_at σ (z_r σ r0 2) 20 (x1 + (2 : Int32))) (z_x (z_i σ (z_r σ r0 2) (x1 + (2 : Int32)).toNatClampNeg) (fun u2 => z_g (z_kd σ r0 == 12) (z_g (z_at σ (z_r σ r0 2) 20 x1) (if (z_i σ (z_r σ r0 2) x1.toNatClampNeg) = (3 : Int32) then
    z_g (z_kd σ r0 == 12) (z_bI (z_call d 20 [vr r0, vi u1, vi u2] σ) (fun v4 σ3 =>
    if v4 < 0 then
      some (vi (0 : Int32), σ3)
    else
      some (vi (1 : Int32), σ3)))
  else if (z_i σ (z_r σ r0 2) x1.toNatClampNeg) = (4 : Int32) then
    z_g (z_kd σ r0 == 12) (z_g (z_at σ (z_r σ r0 2) 20 (x1 + (3 : Int32))) (z_g (z_kd σ r0 == 12) (z_bI (z_call d 24 [vr r0, vi u1, vi u2, vi (z_i σ (z_r σ r0 2) (x1 + (3 : Int32)).toNatClampNeg)] σ) (fun v6 σ5 =>
    if v6 < 0 then
      some (vi (0 : Int32), σ5)
    else
      some (vi (1 : Int32), σ5)))))
  else if (z_i σ (z_r σ r0 2) x1.toNatClampNeg) = (5 : Int32) then
    z_g (z_kd σ r0 == 12) (z_bI (z_call d 27 [vr r0, vi u1, vi u2] σ) (fun v8 σ7 =>
    if v8 < 0 then
      some (vi (0 : Int32), σ7)
    else
      some (vi (1 : Int32), σ7)))
  else if (z_i σ (z_r σ r0 2) x1.toNatClampNeg) = (6 : Int32) then
    z_g (z_kd σ r0 == 12) (z_bI (z_call d 130 [vr r0, vi u1, vi u2] σ) (fun v10 σ9 =>
    z_g (z_fit 1 v10) (some (vi v10, σ9))))
  else if (z_i σ (z_r σ r0 2) x1.toNatClampNeg) = (7 : Int32) then
    z_g (z_kd σ r0 == 12) (z_bI (z_call d 136 [vr r0, vi u1, vi (1 : Int32)] σ) (fun v12 σ11 =>
    z_g (z_fit 1 v12) (some (vi v12, σ11))))
  else if (z_i σ (z_r σ r0 2) x1.toNatClampNeg) = (8 : Int32) then
    z_g (z_kd σ r0 == 12) (z_bI (z_call d 136 [vr r0, vi u1, vi (0 : Int32)] σ) (fun v14 σ13 =>
    z_g (z_fit 1 v14) (some (vi v14, σ13))))
  else if (z_i σ (z_r σ r0 2) x1.toNatClampNeg) = (9 : Int32) then
    z_g (z_kd σ r0 == 12) (z_bI (z_call d 136 [vr r0, vi u1, vi (2 : Int32)] σ) (fun v16 σ15 =>
    z_g (z_fit 1 v16) (some (vi v16, σ15))))
  else if (z_i σ (z_r σ r0 2) x1.toNatClampNeg) = (10 : Int32) then
    z_g (z_kd σ r0 == 12) (z_bI (z_call d 140 [vr r0, vi u1, vi (1 : Int32)] σ) (fun v18 σ17 =>
    z_g (z_fit 1 v18) (some (vi v18, σ17))))
  else if (z_i σ (z_r σ r0 2) x1.toNatClampNeg) = (11 : Int32) then
    z_g (z_kd σ r0 == 12) (z_bI (z_call d 171 [vr r0, vi u1] σ) (fun v20 σ19 =>
    if v20 < 0 then
      some (vi (0 : Int32), σ19)
    else
      some (vi (1 : Int32), σ19)))
  else if (z_i σ (z_r σ r0 2) x1.toNatClampNeg) = (12 : Int32) then
    z_g (z_kd σ r0 == 12) (z_bI (z_call d 174 [vr r0, vi u1] σ) (fun v22 σ21 =>
    if v22 < 0 then
      some (vi (0 : Int32), σ21)
    else
      some (vi (1 : Int32), σ21)))
  else some (vi (1 : Int32), σ))))))))) := (z_w_eq _ _ _ _ _ _).trans rfl
set_option maxRecDepth 100000 in
theorem e_M_played (d : Nat) (r0 : Nat) (x1 : Int32) (σ : ZM) : z_call (d + 1) 178 [vr r0, vi x1] σ =
  z_g (z_kd σ r0 == 12) (z_g (z_at σ (z_r σ r0 0) 20 (5 : Int32)) (z_bI (z_call d 19 [vi x1, vi (0 : Int32), vi ((z_i σ (z_r σ r0 0) (5 : Int32).toNatClampNeg) - (1 : Int32))] σ) (fun v2 σ1 =>
  if v2 = 0 then
    some (vi (-2 : Int32), σ1)
  else
    z_w d_M_played (z_call d) 21 [some (vr r0), some (vi x1), some (vi (0 : Int32))] [] σ1))) := (z_w_eq _ _ _ _ _ _).trans rfl
set_option maxRecDepth 100000 in
theorem e_M_played_21 (cl : Nat → List ZV → ZM → ZR) (r0 : Nat) (x1 : Int32) (x2 : Int32) (σ : ZM) : z_w d_M_played cl 21 [some (vr r0), some (vi x1), some (vi x2)] [] σ =
  z_g (z_kd σ r0 == 12) (z_g (z_at σ (z_r σ r0 2) 20 ((705 : Int32) * x1)) (if x2 < (z_i σ (z_r σ r0 2) ((705 : Int32) * x1).toNatClampNeg) then
    z_g (z_kd σ r0 == 12) (z_bI (cl 177 [vr r0, vi ((((705 : Int32) * x1) + (1 : Int32)) + ((4 : Int32) * x2))] σ) (fun v2 σ1 =>
    if v2 = 0 then
      some (vi x2, σ1)
    else
      z_w d_M_played cl 21 [some (vr r0), some (vi x1), some (vi (x2 + (1 : Int32)))] [] σ1))
  else
    some (vi (-1 : Int32), σ))) := (z_w_eq _ _ _ _ _ _).trans rfl
set_option maxRecDepth 100000 in
theorem e_De_sitByChance (d : Nat) (r0 : Nat) (x1 : Int32) (x2 : Int32) (σ : ZM) : z_call (d + 1) 179 [vr r0, vi x1, vi x2] σ =
  z_g (z_kd σ r0 == 2) (z_g (z_kd σ (z_r σ r0 0) == 4) (z_x (z_i σ (z_r σ r0 0) 0) (fun u1 => if 0 < u1 then
    z_g (z_kd σ r0 == 2) (z_g (!(u1 == 0)) (z_g (z_kd σ (z_r σ r0 1) == 5) (z_bI (z_call d 120 [vr (z_r σ r0 1), vi (x2 - x2 / u1 * u1)] σ) (fun v3 σ2 =>
    if v3 = (-1 : Int32) then
      z_g (z_kd σ2 r0 == 2) (z_g (z_kd σ2 (z_r σ2 r0 1) == 5) (z_g (!(u1 == 0)) (z_g (z_at σ2 (z_r σ2 (z_r σ2 r0 1) 0) 20 x1 && Nat.ble 10 (z_r σ2 (z_r σ2 r0 1) 0)) (z_x (z_ui σ2 (z_r σ2 (z_r σ2 r0 1) 0) x1.toNatClampNeg (x2 - x2 / u1 * u1)) (fun σ4 =>
      some (vi 0, σ4))))))
    else
      some (vi 0, σ2)))))
  else
    some (vi 0, σ)))) := (z_w_eq _ _ _ _ _ _).trans rfl
set_option maxRecDepth 100000 in
theorem e_De_happen (d : Nat) (r0 : Nat) (x1 : Int32) (x2 : Int32) (σ : ZM) : z_call (d + 1) 180 [vr r0, vi x1, vi x2] σ =
  if 0 < x2 then
    z_g (!(x2 == 0)) (z_w d_De_happen (z_call d) 11 [some (vr r0), some (vi x1), none, none] [vi (x1 - x1 / x2 * x2)] σ)
  else
    z_w d_De_happen (z_call d) 11 [some (vr r0), some (vi x1), none, none] [vi (0 : Int32)] σ := (z_w_eq _ _ _ _ _ _).trans rfl
set_option maxRecDepth 100000 in
theorem e_De_happen_11 (cl : Nat → List ZV → ZM → ZR) (r0 : Nat) (x1 : Int32) (s0 : Int32) (σ : ZM) : z_w d_De_happen cl 11 [some (vr r0), some (vi x1), none, none] [vi s0] σ =
  if (x1 - x1 / (6 : Int32) * (6 : Int32)) = (0 : Int32) then
    z_g (z_kd σ r0 == 2) (z_bV (cl 179 [vr r0, vi s0, vi x1] σ) (fun σ1 =>
    some (vi 0, σ1)))
  else if (x1 - x1 / (6 : Int32) * (6 : Int32)) = (1 : Int32) then
    z_g (z_kd σ r0 == 2) (z_g (z_kd σ (z_r σ r0 1) == 5) (z_g (z_at σ (z_r σ (z_r σ r0 1) 1) 20 s0 && Nat.ble 10 (z_r σ (z_r σ r0 1) 1)) (z_x (z_ui σ (z_r σ (z_r σ r0 1) 1) s0.toNatClampNeg (x1 - x1 / (3 : Int32) * (3 : Int32))) (fun σ2 =>
    some (vi 0, σ2)))))
  else if (x1 - x1 / (6 : Int32) * (6 : Int32)) = (2 : Int32) then
    z_g (z_kd σ r0 == 2) (z_x (z_r σ r0 1) (fun u3 => z_g (z_kd σ u3 == 5) (z_g (z_kd σ u3 == 5) (z_x (z_ui σ u3 2 ((z_i σ u3 2) ^^^ ((1 : Int32) <<< ((x1 - x1 / (4 : Int32) * (4 : Int32)) &&& 31)))) (fun σ4 =>
    some (vi 0, σ4))))))
  else if (x1 - x1 / (6 : Int32) * (6 : Int32)) = (3 : Int32) then
    z_g (z_kd σ r0 == 2) (z_g (z_kd σ r0 == 2) (z_g (z_kd σ (z_r σ r0 1) == 5) (z_g (z_kd σ (z_r σ r0 1) == 5) (z_bI (cl 141 [vr (z_r σ r0 1), vi s0, vi (z_i σ (z_r σ r0 1) 3)] σ) (fun v6 σ5 =>
    if v6 = 0 then
      z_g (z_kd σ5 r0 == 2) (z_bV (cl 152 [vr r0, vi s0] σ5) (fun σ7 =>
      some (vi 0, σ7)))
    else
      some (vi 0, σ5))))))
  else z_g (z_kd σ r0 == 2) (z_g (z_kd σ r0 == 2) (z_g (z_kd σ (z_r σ r0 1) == 5) (z_bI (cl 34 [vi ((z_i σ (z_r σ r0 1) 3) + (1 : Int32)), vi (9999 : Int32)] σ) (fun v9 σ8 =>
    z_g (z_kd σ8 (z_r σ r0 1) == 5) (z_x (z_ui σ8 (z_r σ r0 1) 3 v9) (fun σ10 =>
    some (vi 0, σ10))))))) := (z_w_eq _ _ _ _ _ _).trans rfl
set_option maxRecDepth 100000 in
theorem e_De_runSeason (d : Nat) (r0 : Nat) (x1 : Int32) (x2 : Int32) (σ : ZM) : z_call (d + 1) 181 [vr r0, vi x1, vi x2] σ =
  z_bI (z_call d 16 [vi x1, vi (0 : Int32), vi (9999 : Int32)] σ) (fun v2 σ1 =>
  if v2 = 0 then
    some (vi (-1 : Int32), σ1)
  else
    z_bI (z_call d 16 [vi x2, vi (1 : Int32), vi (40 : Int32)] σ1) (fun v4 σ3 =>
    if v4 = 0 then
      some (vi (-1 : Int32), σ3)
    else
      z_g (z_kd σ3 r0 == 2) (z_g (z_kd σ3 (z_r σ3 r0 0) == 4) (if (z_i σ3 (z_r σ3 r0 0) 3) = 0 then
        some (vi (-1 : Int32), σ3)
      else
        z_g (z_kd σ3 r0 == 2) (z_g (z_kd σ3 r0 == 2) (z_g (z_kd σ3 (z_r σ3 r0 2) == 8) (z_bV (z_call d 122 [vr (z_r σ3 r0 2), vr (z_r σ3 r0 1)] σ3) (fun σ5 =>
        z_g (z_kd σ5 r0 == 2) (z_g (z_kd σ5 (z_r σ5 r0 1) == 5) (z_x (z_ui σ5 (z_r σ5 r0 1) 4 ((x1 * (3 : Int32)) + (71 : Int32))) (fun σ6 =>
        z_w d_De_runSeason (z_call d) 59 [some (vr r0), none, some (vi x2), some (vi (0 : Int32))] [] σ6))))))))))) := (z_w_eq _ _ _ _ _ _).trans rfl
set_option maxRecDepth 100000 in
theorem e_De_runSeason_59 (cl : Nat → List ZV → ZM → ZR) (r0 : Nat) (x2 : Int32) (x3 : Int32) (σ : ZM) : z_w d_De_runSeason cl 59 [some (vr r0), none, some (vi x2), some (vi x3)] [] σ =
  if x3 < x2 then
    z_g (z_kd σ r0 == 2) (z_g (z_kd σ (z_r σ r0 1) == 5) (z_bI (cl 143 [vr (z_r σ r0 1)] σ) (fun v2 σ1 =>
    z_g (z_kd σ1 r0 == 2) (z_g (z_kd σ1 (z_r σ1 r0 0) == 4) (z_g (z_kd σ1 r0 == 2) (z_bV (cl 180 [vr r0, vi v2, vi (z_i σ1 (z_r σ1 r0 0) 3)] σ1) (fun σ3 =>
    z_w d_De_runSeason cl 59 [some (vr r0), none, some (vi x2), some (vi (x3 + (1 : Int32)))] [] σ3)))))))
  else
    z_g (z_kd σ r0 == 2) (z_g (z_kd σ (z_r σ r0 1) == 5) (some (vi (z_i σ (z_r σ r0 1) 3), σ))) := (z_w_eq _ _ _ _ _ _).trans rfl
set_option maxRecDepth 100000 in
theorem e_B_season (d : Nat) (r0 : Nat) (x1 : Int32) (x2 : Int32) (σ : ZM) : z_call (d + 1) 182 [vr r0, vi x1, vi x2] σ =
  z_g (z_kd σ r0 == 11) (z_g (z_kd σ (z_r σ r0 12) == 2) (z_bI (z_call d 181 [vr (z_r σ r0 12), vi x1, vi x2] σ) (fun v2 σ1 =>
  some (vi v2, σ1)))) := (z_w_eq _ _ _ _ _ _).trans rfl
set_option maxRecDepth 100000 in
theorem e_M_happens (d : Nat) (r0 : Nat) (x1 : Int32) (σ : ZM) : z_call (d + 1) 183 [vr r0, vi x1] σ =
  z_g (z_kd σ r0 == 12) (z_g (z_at σ (z_r σ r0 0) 20 (1 : Int32)) (z_g (!((z_i σ (z_r σ r0 0) (1 : Int32).toNatClampNeg) == 0)) (z_x (x1 - x1 / (z_i σ (z_r σ r0 0) (1 : Int32).toNatClampNeg) * (z_i σ (z_r σ r0 0) (1 : Int32).toNatClampNeg)) (fun u1 => z_g (z_kd σ r0 == 12) (z_g (z_at σ (z_r σ r0 0) 20 (0 : Int32)) (if (z_i σ (z_r σ r0 0) (0 : Int32).toNatClampNeg) = 0 then
    z_w d_M_happens (z_call d) 30 [some (vr r0), some (vi x1), some (vi u1), none] [vi (-1 : Int32)] σ
  else
    z_g (z_kd σ r0 == 12) (z_g (z_at σ (z_r σ r0 0) 20 (0 : Int32)) (z_g (!((z_i σ (z_r σ r0 0) (0 : Int32).toNatClampNeg) == 0)) (z_w d_M_happens (z_call d) 30 [some (vr r0), some (vi x1), some (vi u1), none] [vi (x1 - x1 / (z_i σ (z_r σ r0 0) (0 : Int32).toNatClampNeg) * (z_i σ (z_r σ r0 0) (0 : Int32).toNatClampNeg))] σ))))))))) := (z_w_eq _ _ _ _ _ _).trans rfl
set_option maxRecDepth 100000 in
theorem e_M_happens_30 (cl : Nat → List ZV → ZM → ZR) (r0 : Nat) (x1 : Int32) (x2 : Int32) (s0 : Int32) (σ : ZM) : z_w d_M_happens cl 30 [some (vr r0), some (vi x1), some (vi x2), none] [vi s0] σ =
  if (x1 - x1 / (6 : Int32) * (6 : Int32)) = (0 : Int32) then
    if s0 = (-1 : Int32) then
      some (vi 0, σ)
    else
      z_g (z_kd σ r0 == 12) (z_bI (cl 128 [vr r0, vi s0] σ) (fun v2 σ1 =>
      if v2 = (-1 : Int32) then
        z_g (z_kd σ1 r0 == 12) (z_bV (cl 23 [vr r0, vi x2, vi (3 : Int32), vi s0] σ1) (fun σ3 =>
        some (vi 0, σ3)))
      else
        some (vi 0, σ1)))
  else if (x1 - x1 / (6 : Int32) * (6 : Int32)) = (1 : Int32) then
    z_g (z_kd σ r0 == 12) (z_bV (cl 23 [vr r0, vi x2, vi (4 : Int32), vi (x1 - x1 / (3 : Int32) * (3 : Int32))] σ) (fun σ4 =>
    some (vi 0, σ4)))
  else if (x1 - x1 / (6 : Int32) * (6 : Int32)) = (2 : Int32) then
    z_g (z_kd σ r0 == 12) (z_x (z_r σ r0 0) (fun u5 => z_g (z_at σ u5 20 (8 : Int32)) (z_g (z_at σ u5 20 (8 : Int32) && Nat.ble 10 u5) (z_x (z_ui σ u5 (8 : Int32).toNatClampNeg ((z_i σ u5 (8 : Int32).toNatClampNeg) ^^^ ((1 : Int32) <<< ((x1 - x1 / (4 : Int32) * (4 : Int32)) &&& 31)))) (fun σ6 =>
    some (vi 0, σ6))))))
  else if (x1 - x1 / (6 : Int32) * (6 : Int32)) = (3 : Int32) then
    z_g (z_kd σ r0 == 12) (z_g (z_at σ (z_r σ r0 0) 20 (3 : Int32)) (z_g (z_kd σ r0 == 12) (z_bI (cl 155 [vr r0, vi x2, vi (z_i σ (z_r σ r0 0) (3 : Int32).toNatClampNeg)] σ) (fun v8 σ7 =>
    if v8 = 0 then
      z_g (z_kd σ7 r0 == 12) (z_bI (cl 170 [vr r0, vi x2] σ7) (fun v10 σ9 =>
      some (vi 0, σ9)))
    else
      some (vi 0, σ7)))))
  else z_g (z_kd σ r0 == 12) (z_g (z_at σ (z_r σ r0 0) 20 (3 : Int32)) (if (z_i σ (z_r σ r0 0) (3 : Int32).toNatClampNeg) < (9999 : Int32) then
      z_g (z_kd σ r0 == 12) (z_x (z_r σ r0 0) (fun u11 => z_g (z_at σ u11 20 (3 : Int32)) (z_g (z_at σ u11 20 (3 : Int32) && Nat.ble 10 u11) (z_x (z_ui σ u11 (3 : Int32).toNatClampNeg ((z_i σ u11 (3 : Int32).toNatClampNeg) + (1 : Int32))) (fun σ12 =>
      some (vi 0, σ12))))))
    else
      some (vi 0, σ))) := (z_w_eq _ _ _ _ _ _).trans rfl
set_option maxRecDepth 100000 in
theorem e_M_season (d : Nat) (r0 : Nat) (x1 : Int32) (x2 : Int32) (σ : ZM) : z_call (d + 1) 184 [vr r0, vi x1, vi x2] σ =
  z_bI (z_call d 19 [vi x1, vi (0 : Int32), vi (9999 : Int32)] σ) (fun v2 σ1 =>
  if v2 = 0 then
    some (vi (-1 : Int32), σ1)
  else
    z_bI (z_call d 19 [vi x2, vi (1 : Int32), vi (40 : Int32)] σ1) (fun v4 σ3 =>
    if v4 = 0 then
      some (vi (-1 : Int32), σ3)
    else
      z_g (z_kd σ3 r0 == 12) (z_g (z_at σ3 (z_r σ3 r0 0) 20 (1 : Int32)) (if (z_i σ3 (z_r σ3 r0 0) (1 : Int32).toNatClampNeg) = 0 then
        some (vi (-1 : Int32), σ3)
      else
        z_g (z_kd σ3 r0 == 12) (z_bV (z_call d 129 [vr r0] σ3) (fun σ5 =>
        z_g (z_kd σ5 r0 == 12) (z_g (z_at σ5 (z_r σ5 r0 0) 20 (4 : Int32) && Nat.ble 10 (z_r σ5 r0 0)) (z_x (z_ui σ5 (z_r σ5 r0 0) (4 : Int32).toNatClampNeg ((x1 * (3 : Int32)) + (71 : Int32))) (fun σ6 =>
        z_w d_M_season (z_call d) 50 [some (vr r0), none, some (vi x2), some (vi (0 : Int32)), none] [] σ6))))))))) := (z_w_eq _ _ _ _ _ _).trans rfl
set_option maxRecDepth 100000 in
theorem e_M_season_50 (cl : Nat → List ZV → ZM → ZR) (r0 : Nat) (x2 : Int32) (x3 : Int32) (σ : ZM) : z_w d_M_season cl 50 [some (vr r0), none, some (vi x2), some (vi x3), none] [] σ =
  if x3 < x2 then
    z_g (z_kd σ r0 == 12) (z_g (z_at σ (z_r σ r0 0) 20 (4 : Int32)) (z_x (z_i σ (z_r σ r0 0) (4 : Int32).toNatClampNeg) (fun u1 => z_g (z_kd σ r0 == 12) (z_bV (cl 157 [vr r0] σ) (fun σ2 =>
    z_g (z_kd σ2 r0 == 12) (z_bV (cl 183 [vr r0, vi u1] σ2) (fun σ3 =>
    z_w d_M_season cl 50 [some (vr r0), none, some (vi x2), some (vi (x3 + (1 : Int32))), none] [] σ3)))))))
  else
    z_g (z_kd σ r0 == 12) (z_g (z_at σ (z_r σ r0 0) 20 (3 : Int32)) (some (vi (z_i σ (z_r σ r0 0) (3 : Int32).toNatClampNeg), σ))) := (z_w_eq _ _ _ _ _ _).trans rfl
set_option maxRecDepth 100000 in
theorem e_Mo_readFrom (d : Nat) (r0 : Nat) (r1 : Nat) (x2 : Int32) (σ : ZM) : z_call (d + 1) 185 [vr r0, vr r1, vi x2] σ =
  z_g (z_kd σ r0 == 5) (z_bV (z_call d 1 [vr r1, vi x2, vr (z_r σ r0 0), vi (0 : Int32), vi (10 : Int32)] σ) (fun σ1 =>
  z_g (z_kd σ1 r0 == 5) (z_bV (z_call d 1 [vr r1, vi (x2 + (10 : Int32)), vr (z_r σ1 r0 1), vi (0 : Int32), vi (10 : Int32)] σ1) (fun σ2 =>
  z_x (x2 + (20 : Int32)) (fun u3 => z_g (z_at σ2 r1 20 u3) (z_g (z_kd σ2 r0 == 5) (z_x (z_ui σ2 r0 2 (z_i σ2 r1 u3.toNatClampNeg)) (fun σ4 =>
  z_g (z_at σ4 r1 20 (u3 + (1 : Int32))) (z_g (z_kd σ4 r0 == 5) (z_x (z_ui σ4 r0 3 (z_i σ4 r1 (u3 + (1 : Int32)).toNatClampNeg)) (fun σ5 =>
  z_g (z_at σ5 r1 20 (u3 + (2 : Int32))) (z_g (z_kd σ5 r0 == 5) (z_x (z_ui σ5 r0 4 (z_i σ5 r1 (u3 + (2 : Int32)).toNatClampNeg)) (fun σ6 =>
  z_g (z_at σ6 r1 20 (u3 + (3 : Int32))) (z_g (z_kd σ6 r0 == 5) (z_x (z_ui σ6 r0 5 (z_i σ6 r1 (u3 + (3 : Int32)).toNatClampNeg)) (fun σ7 =>
  some (vi 0, σ7)))))))))))))))))) := (z_w_eq _ _ _ _ _ _).trans rfl
set_option maxRecDepth 100000 in
theorem e_St_takeBack (d : Nat) (r0 : Nat) (r1 : Nat) (σ : ZM) : z_call (d + 1) 186 [vr r0, vr r1] σ =
  z_g (z_kd σ r0 == 8) (if (z_i σ r0 2) = 0 then
    some (vi (0 : Int32), σ)
  else
    z_g (z_kd σ r0 == 8) (z_g (z_kd σ r0 == 8) (z_x (z_ui σ r0 2 ((z_i σ r0 2) - (1 : Int32))) (fun σ1 =>
    z_g (z_kd σ1 r0 == 8) (z_g (z_kd σ1 r0 == 8) (z_x (z_ui σ1 r0 1 ((((z_i σ1 r0 1) + (30 : Int32)) - (1 : Int32)) - (((z_i σ1 r0 1) + (30 : Int32)) - (1 : Int32)) / (30 : Int32) * (30 : Int32))) (fun σ2 =>
    z_g (z_kd σ2 r0 == 8) (z_g (z_kd σ2 r0 == 8) (z_g (z_kd σ2 r1 == 5) (z_bV (z_call d 185 [vr r1, vr (z_r σ2 r0 0), vi ((z_i σ2 r0 1) * (24 : Int32))] σ2) (fun σ3 =>
    some (vi (1 : Int32), σ3)))))))))))) := (z_w_eq _ _ _ _ _ _).trans rfl
set_option maxRecDepth 100000 in
theorem e_B_undo (d : Nat) (r0 : Nat) (σ : ZM) : z_call (d + 1) 187 [vr r0] σ =
  z_g (z_kd σ r0 == 11) (z_g (z_kd σ r0 == 11) (z_g (z_kd σ (z_r σ r0 2) == 8) (z_bI (z_call d 186 [vr (z_r σ r0 2), vr (z_r σ r0 1)] σ) (fun v2 σ1 =>
  if v2 = 0 then
    some (vi (-1 : Int32), σ1)
  else
    z_g (z_kd σ1 r0 == 11) (z_g (z_kd σ1 (z_r σ1 r0 2) == 8) (some (vi (z_i σ1 (z_r σ1 r0 2) 2), σ1))))))) := (z_w_eq _ _ _ _ _ _).trans rfl
set_option maxRecDepth 100000 in
theorem e_M_undo (d : Nat) (r0 : Nat) (σ : ZM) : z_call (d + 1) 188 [vr r0] σ =
  z_g (z_kd σ r0 == 12) (z_g (z_at σ (z_r σ r0 0) 20 (7 : Int32)) (if (z_i σ (z_r σ r0 0) (7 : Int32).toNatClampNeg) = 0 then
    some (vi (-1 : Int32), σ)
  else
    z_g (z_kd σ r0 == 12) (z_x (z_r σ r0 0) (fun u1 => z_g (z_at σ u1 20 (7 : Int32)) (z_g (z_at σ u1 20 (7 : Int32) && Nat.ble 10 u1) (z_x (z_ui σ u1 (7 : Int32).toNatClampNeg ((z_i σ u1 (7 : Int32).toNatClampNeg) - (1 : Int32))) (fun σ2 =>
    z_g (z_kd σ2 r0 == 12) (z_g (z_at σ2 (z_r σ2 r0 0) 20 (7 : Int32)) (z_x ((186 : Int32) + ((65 : Int32) * (z_i σ2 (z_r σ2 r0 0) (7 : Int32).toNatClampNeg))) (fun u3 => z_g (z_kd σ2 r0 == 12) (z_g (z_kd σ2 r0 == 12) (z_g (z_at σ2 (z_r σ2 r0 0) 20 (u3 + (1 : Int32))) (z_g (z_at σ2 (z_r σ2 r0 0) 20 (8 : Int32) && Nat.ble 10 (z_r σ2 r0 0)) (z_x (z_ui σ2 (z_r σ2 r0 0) (8 : Int32).toNatClampNeg (z_i σ2 (z_r σ2 r0 0) (u3 + (1 : Int32)).toNatClampNeg)) (fun σ4 =>
    z_g (z_kd σ4 r0 == 12) (z_g (z_kd σ4 r0 == 12) (z_g (z_at σ4 (z_r σ4 r0 0) 20 (u3 + (2 : Int32))) (z_g (z_at σ4 (z_r σ4 r0 0) 20 (3 : Int32) && Nat.ble 10 (z_r σ4 r0 0)) (z_x (z_ui σ4 (z_r σ4 r0 0) (3 : Int32).toNatClampNeg (z_i σ4 (z_r σ4 r0 0) (u3 + (2 : Int32)).toNatClampNeg)) (fun σ5 =>
    z_g (z_kd σ5 r0 == 12) (z_g (z_kd σ5 r0 == 12) (z_g (z_at σ5 (z_r σ5 r0 0) 20 (u3 + (3 : Int32))) (z_g (z_at σ5 (z_r σ5 r0 0) 20 (4 : Int32) && Nat.ble 10 (z_r σ5 r0 0)) (z_x (z_ui σ5 (z_r σ5 r0 0) (4 : Int32).toNatClampNeg (z_i σ5 (z_r σ5 r0 0) (u3 + (3 : Int32)).toNatClampNeg)) (fun σ6 =>
    z_g (z_kd σ6 r0 == 12) (z_g (z_kd σ6 r0 == 12) (z_g (z_at σ6 (z_r σ6 r0 0) 20 (u3 + (4 : Int32))) (z_g (z_at σ6 (z_r σ6 r0 0) 20 (11 : Int32) && Nat.ble 10 (z_r σ6 r0 0)) (z_x (z_ui σ6 (z_r σ6 r0 0) (11 : Int32).toNatClampNeg (z_i σ6 (z_r σ6 r0 0) (u3 + (4 : Int32)).toNatClampNeg)) (fun σ7 =>
    z_w d_M_undo (z_call d) 98 [some (vr r0), some (vi u3), some (vi (0 : Int32))] [] σ7)))))))))))))))))))))))))))))) := (z_w_eq _ _ _ _ _ _).trans rfl
set_option maxRecDepth 100000 in
theorem e_M_undo_98 (cl : Nat → List ZV → ZM → ZR) (r0 : Nat) (x1 : Int32) (x2 : Int32) (σ : ZM) : z_w d_M_undo cl 98 [some (vr r0), some (vi x1), some (vi x2)] [] σ =
  z_g (z_kd σ r0 == 12) (z_g (z_at σ (z_r σ r0 0) 20 (1 : Int32)) (if x2 < (z_i σ (z_r σ r0 0) (1 : Int32).toNatClampNeg) then
    z_g (z_kd σ r0 == 12) (z_g (z_at σ (z_r σ r0 0) 20 x1) (if x2 < (z_i σ (z_r σ r0 0) x1.toNatClampNeg) then
      z_g (z_kd σ r0 == 12) (z_g (z_at σ (z_r σ r0 0) 20 ((x1 + (5 : Int32)) + ((2 : Int32) * x2))) (z_g (z_kd σ r0 == 12) (z_bV (cl 23 [vr r0, vi x2, vi (3 : Int32), vi (z_i σ (z_r σ r0 0) ((x1 + (5 : Int32)) + ((2 : Int32) * x2)).toNatClampNeg)] σ) (fun σ4 =>
      z_g (z_kd σ4 r0 == 12) (z_g (z_at σ4 (z_r σ4 r0 0) 20 x1) (if x2 < (z_i σ4 (z_r σ4 r0 0) x1.toNatClampNeg) then
        z_g (z_kd σ4 r0 == 12) (z_g (z_at σ4 (z_r σ4 r0 0) 20 ((x1 + (6 : Int32)) + ((2 : Int32) * x2))) (z_g (z_kd σ4 r0 == 12) (z_bV (cl 23 [vr r0, vi x2, vi (4 : Int32), vi (z_i σ4 (z_r σ4 r0 0) ((x1 + (6 : Int32)) + ((2 : Int32) * x2)).toNatClampNeg)] σ4) (fun σ6 =>
        z_w d_M_undo cl 98 [some (vr r0), some (vi x1), some (vi (x2 + (1 : Int32)))] [] σ6))))
      else
        z_g (z_kd σ4 r0 == 12) (z_bV (cl 23 [vr r0, vi x2, vi (4 : Int32), vi (0 : Int32)] σ4) (fun σ5 =>
        z_w d_M_undo cl 98 [some (vr r0), some (vi x1), some (vi (x2 + (1 : Int32)))] [] σ5))))))))
    else
      z_g (z_kd σ r0 == 12) (z_bV (cl 23 [vr r0, vi x2, vi (3 : Int32), vi (-1 : Int32)] σ) (fun σ1 =>
      z_g (z_kd σ1 r0 == 12) (z_g (z_at σ1 (z_r σ1 r0 0) 20 x1) (if x2 < (z_i σ1 (z_r σ1 r0 0) x1.toNatClampNeg) then
        z_g (z_kd σ1 r0 == 12) (z_g (z_at σ1 (z_r σ1 r0 0) 20 ((x1 + (6 : Int32)) + ((2 : Int32) * x2))) (z_g (z_kd σ1 r0 == 12) (z_bV (cl 23 [vr r0, vi x2, vi (4 : Int32), vi (z_i σ1 (z_r σ1 r0 0) ((x1 + (6 : Int32)) + ((2 : Int32) * x2)).toNatClampNeg)] σ1) (fun σ3 =>
        z_w d_M_undo cl 98 [some (vr r0), some (vi x1), some (vi (x2 + (1 : Int32)))] [] σ3))))
      else
        z_g (z_kd σ1 r0 == 12) (z_bV (cl 23 [vr r0, vi x2, vi (4 : Int32), vi (0 : Int32)] σ1) (fun σ2 =>
        z_w d_M_undo cl 98 [some (vr r0), some (vi x1), some (vi (x2 + (1 : Int32)))] [] σ2))))))))
  else
    z_w d_M_undo cl 181 [some (vr r0), some (vi x1), some (vi (0 : Int32))] [] σ)) := (z_w_eq _ _ _ _ _ _).trans rfl
set_option maxRecDepth 100000 in
theorem e_M_undo_181 (cl : Nat → List ZV → ZM → ZR) (r0 : Nat) (x1 : Int32) (x2 : Int32) (σ : ZM) : z_w d_M_undo cl 181 [some (vr r0), some (vi x1), some (vi x2)] [] σ =
  if x2 < (40 : Int32) then
    z_g (z_kd σ r0 == 12) (z_g (z_kd σ r0 == 12) (z_g (z_at σ (z_r σ r0 0) 20 ((x1 + (25 : Int32)) + x2)) (z_g (z_at σ (z_r σ r0 0) 20 ((106 : Int32) + x2) && Nat.ble 10 (z_r σ r0 0)) (z_x (z_ui σ (z_r σ r0 0) ((106 : Int32) + x2).toNatClampNeg (z_i σ (z_r σ r0 0) ((x1 + (25 : Int32)) + x2).toNatClampNeg)) (fun σ1 =>
    z_w d_M_undo cl 181 [some (vr r0), some (vi x1), some (vi (x2 + (1 : Int32)))] [] σ1)))))
  else
    z_g (z_kd σ r0 == 12) (z_g (z_at σ (z_r σ r0 0) 20 (7 : Int32)) (some (vi (z_i σ (z_r σ r0 0) (7 : Int32).toNatClampNeg), σ))) := (z_w_eq _ _ _ _ _ _).trans rfl
set_option maxRecDepth 100000 in
theorem e_Br_timeNow (d : Nat) (r0 : Nat) (x1 : Int32) (x2 : Int32) (σ : ZM) : z_call (d + 1) 189 [vr r0, vi x1, vi x2] σ =
  z_g (z_kd σ r0 == 1) (z_g (z_kd σ (z_r σ r0 1) == 5) (z_g (z_at σ (z_r σ (z_r σ r0 1) 0) 20 x1) (z_g (z_kd σ r0 == 1) (z_g (z_kd σ (z_r σ r0 1) == 5) (z_g (z_at σ (z_r σ (z_r σ r0 1) 1) 20 x1) (z_g (z_kd σ r0 == 1) (z_g (z_kd σ (z_r σ r0 1) == 5) (z_g (z_kd σ r0 == 1) (z_g (z_kd σ (z_r σ r0 0) == 4) (z_g (z_at σ (z_r σ (z_r σ r0 0) 6) 20 x1) (z_g (z_kd σ r0 == 1) (z_bI (z_call d 145 [vr r0, vi x1, vi x2, vi (z_i σ (z_r σ (z_r σ r0 1) 0) x1.toNatClampNeg), vi (z_i σ (z_r σ (z_r σ r0 1) 1) x1.toNatClampNeg), vi (z_i σ (z_r σ r0 1) 2), vi (z_i σ (z_r σ (z_r σ r0 0) 6) x1.toNatClampNeg)] σ) (fun v2 σ1 =>
  some (vi v2, σ1)))))))))))))) := (z_w_eq _ _ _ _ _ _).trans rfl
set_option maxRecDepth 100000 in
theorem e_Ma_floorMod (d : Nat) (x0 : Int32) (x1 : Int32) (σ : ZM) : z_call (d + 1) 190 [vi x0, vi x1] σ =
  z_g (!(x1 == 0)) (z_x (x0 - x0 / x1 * x1) (fun u1 => if (x0 ^^^ x1) < 0 then
    if u1 = 0 then
      some (vi u1, σ)
    else
      some (vi (u1 + x1), σ)
  else
    some (vi u1, σ))) := (z_w_eq _ _ _ _ _ _).trans rfl
set_option maxRecDepth 100000 in
theorem e_Br_breathAs (d : Nat) (r0 : Nat) (x1 : Int32) (x2 : Int32) (x3 : Int32) (x4 : Int32) (x5 : Int32) (x6 : Int32) (σ : ZM) : z_call (d + 1) 191 [vr r0, vi x1, vi x2, vi x3, vi x4, vi x5, vi x6] σ =
  if x3 = (-1 : Int32) then
    some (vi (0 : Int32), σ)
  else
    if x4 = (2 : Int32) then
      some (vi (0 : Int32), σ)
    else
      z_g (z_kd σ r0 == 1) (z_g (z_kd σ (z_r σ r0 1) == 5) (z_bI (z_call d 141 [vr (z_r σ r0 1), vi x1, vi x2] σ) (fun v2 σ1 =>
      if v2 = 0 then
        z_g (z_kd σ1 r0 == 1) (z_bI (z_call d 145 [vr r0, vi x1, vi x2, vi x3, vi x4, vi x5, vi x6] σ1) (fun v4 σ3 =>
        z_g (z_kd σ3 r0 == 1) (z_g (z_kd σ3 (z_r σ3 r0 0) == 4) (z_bR (z_call d 144 [vr (z_r σ3 r0 0)] σ3) (fun v6 σ5 =>
        z_g (!(v6 == 9)) (if v6 = 0 then
          z_w d_Br_breathAs (z_call d) 62 [some (vr r0), some (vi x1), none, none, none, none, none, some (vi v4), none, none] [] σ5
        else
          z_g (z_kd σ5 v6 == 9) (z_g (!((z_r σ5 v6 0) == 9)) (if (z_r σ5 v6 0) = 0 then
            z_w d_Br_breathAs (z_call d) 62 [some (vr r0), some (vi x1), none, none, none, none, none, some (vi v4), none, none] [] σ5
          else
            z_g (z_kd σ5 r0 == 1) (z_bV (z_call d 146 [vr r0, vi x1, vi x2, vi v4, vi x3, vi x4] σ5) (fun σ7 =>
            z_g (z_kd σ7 v6 == 9) (z_g (z_kd σ7 r0 == 1) (z_bI (z_call d 150 [vr r0, vr (z_r σ7 v6 0)] σ7) (fun v9 σ8 =>
            z_bI (z_call d 34 [vi (9 : Int32), vi v9] σ8) (fun v11 σ10 =>
            z_bI (z_call d 48 [vi (-9 : Int32), vi v11] σ10) (fun v13 σ12 =>
            some (vi v13, σ12))))))))))))))))
      else
        some (vi (0 : Int32), σ1)))) := (z_w_eq _ _ _ _ _ _).trans rfl
set_option maxRecDepth 100000 in
theorem e_Br_breathAs_62 (cl : Nat → List ZV → ZM → ZR) (r0 : Nat) (x1 : Int32) (x7 : Int32) (σ : ZM) : z_w d_Br_breathAs cl 62 [some (vr r0), some (vi x1), none, none, none, none, none, some (vi x7), none, none] [] σ =
  z_g (z_kd σ r0 == 1) (z_g (z_kd σ (z_r σ r0 0) == 4) (z_g (z_at σ (z_r σ (z_r σ r0 0) 5) 20 x1) (z_bI (cl 190 [vi x7, vi ((2 : Int32) * (z_i σ (z_r σ (z_r σ r0 0) 5) x1.toNatClampNeg))] σ) (fun v2 σ1 =>
  z_g (z_kd σ1 r0 == 1) (z_g (z_kd σ1 (z_r σ1 r0 0) == 4) (z_g (z_at σ1 (z_r σ1 (z_r σ1 r0 0) 5) 20 x1) (if v2 < (z_i σ1 (z_r σ1 (z_r σ1 r0 0) 5) x1.toNatClampNeg) then
    if (1 : Int32) = 0 then
      z_g (z_kd σ1 r0 == 1) (z_g (z_kd σ1 (z_r σ1 r0 0) == 4) (z_g (z_at σ1 (z_r σ1 (z_r σ1 r0 0) 4) 20 x1) (some (vi (-(z_i σ1 (z_r σ1 (z_r σ1 r0 0) 4) x1.toNatClampNeg)), σ1))))
    else
      z_g (z_kd σ1 r0 == 1) (z_g (z_kd σ1 (z_r σ1 r0 0) == 4) (z_g (z_at σ1 (z_r σ1 (z_r σ1 r0 0) 4) 20 x1) (some (vi (z_i σ1 (z_r σ1 (z_r σ1 r0 0) 4) x1.toNatClampNeg), σ1))))
  else
    if (0 : Int32) = 0 then
      z_g (z_kd σ1 r0 == 1) (z_g (z_kd σ1 (z_r σ1 r0 0) == 4) (z_g (z_at σ1 (z_r σ1 (z_r σ1 r0 0) 4) 20 x1) (some (vi (-(z_i σ1 (z_r σ1 (z_r σ1 r0 0) 4) x1.toNatClampNeg)), σ1))))
    else
      z_g (z_kd σ1 r0 == 1) (z_g (z_kd σ1 (z_r σ1 r0 0) == 4) (z_g (z_at σ1 (z_r σ1 (z_r σ1 r0 0) 4) 20 x1) (some (vi (z_i σ1 (z_r σ1 (z_r σ1 r0 0) 4) x1.toNatClampNeg), σ1))))))))))) := (z_w_eq _ _ _ _ _ _).trans rfl
set_option maxRecDepth 100000 in
theorem e_Br_breathNow (d : Nat) (r0 : Nat) (x1 : Int32) (x2 : Int32) (σ : ZM) : z_call (d + 1) 192 [vr r0, vi x1, vi x2] σ =
  z_g (z_kd σ r0 == 1) (z_g (z_kd σ (z_r σ r0 1) == 5) (z_g (z_at σ (z_r σ (z_r σ r0 1) 0) 20 x1) (z_g (z_kd σ r0 == 1) (z_g (z_kd σ (z_r σ r0 1) == 5) (z_g (z_at σ (z_r σ (z_r σ r0 1) 1) 20 x1) (z_g (z_kd σ r0 == 1) (z_g (z_kd σ (z_r σ r0 1) == 5) (z_g (z_kd σ r0 == 1) (z_g (z_kd σ (z_r σ r0 0) == 4) (z_g (z_at σ (z_r σ (z_r σ r0 0) 6) 20 x1) (z_g (z_kd σ r0 == 1) (z_bI (z_call d 191 [vr r0, vi x1, vi x2, vi (z_i σ (z_r σ (z_r σ r0 1) 0) x1.toNatClampNeg), vi (z_i σ (z_r σ (z_r σ r0 1) 1) x1.toNatClampNeg), vi (z_i σ (z_r σ r0 1) 2), vi (z_i σ (z_r σ (z_r σ r0 0) 6) x1.toNatClampNeg)] σ) (fun v2 σ1 =>
  some (vi v2, σ1)))))))))))))) := (z_w_eq _ _ _ _ _ _).trans rfl
set_option maxRecDepth 100000 in
theorem e_B_of (d : Nat) (r0 : Nat) (x1 : Int32) (x2 : Int32) (σ : ZM) : z_call (d + 1) 193 [vr r0, vi x1, vi x2] σ =
  z_g (z_kd σ r0 == 11) (z_g (z_kd σ (z_r σ r0 0) == 4) (z_bI (z_call d 118 [vr (z_r σ r0 0), vi x1] σ) (fun v2 σ1 =>
  if v2 = 0 then
    some (vi (-100000 : Int32), σ1)
  else
    if x2 = (0 : Int32) then
      z_g (z_kd σ1 r0 == 11) (z_g (z_kd σ1 (z_r σ1 r0 0) == 4) (z_g (z_at σ1 (z_r σ1 (z_r σ1 r0 0) 4) 20 x1) (some (vi (z_i σ1 (z_r σ1 (z_r σ1 r0 0) 4) x1.toNatClampNeg), σ1))))
    else if x2 = (1 : Int32) then
      z_g (z_kd σ1 r0 == 11) (z_g (z_kd σ1 (z_r σ1 r0 0) == 4) (z_g (z_at σ1 (z_r σ1 (z_r σ1 r0 0) 5) 20 x1) (some (vi (z_i σ1 (z_r σ1 (z_r σ1 r0 0) 5) x1.toNatClampNeg), σ1))))
    else if x2 = (2 : Int32) then
      z_g (z_kd σ1 r0 == 11) (z_g (z_kd σ1 (z_r σ1 r0 0) == 4) (z_g (z_at σ1 (z_r σ1 (z_r σ1 r0 0) 6) 20 x1) (some (vi (z_i σ1 (z_r σ1 (z_r σ1 r0 0) 6) x1.toNatClampNeg), σ1))))
    else if x2 = (3 : Int32) then
      z_g (z_kd σ1 r0 == 11) (z_g (z_kd σ1 (z_r σ1 r0 1) == 5) (z_g (z_at σ1 (z_r σ1 (z_r σ1 r0 1) 0) 20 x1) (some (vi (z_i σ1 (z_r σ1 (z_r σ1 r0 1) 0) x1.toNatClampNeg), σ1))))
    else if x2 = (4 : Int32) then
      z_g (z_kd σ1 r0 == 11) (z_g (z_kd σ1 (z_r σ1 r0 1) == 5) (z_g (z_at σ1 (z_r σ1 (z_r σ1 r0 1) 1) 20 x1) (some (vi (z_i σ1 (z_r σ1 (z_r σ1 r0 1) 1) x1.toNatClampNeg), σ1))))
    else if x2 = (5 : Int32) then
      z_g (z_kd σ1 r0 == 11) (z_g (z_kd σ1 r0 == 11) (z_g (z_kd σ1 (z_r σ1 r0 1) == 5) (z_g (z_kd σ1 (z_r σ1 r0 11) == 1) (z_bI (z_call d 189 [vr (z_r σ1 r0 11), vi x1, vi (z_i σ1 (z_r σ1 r0 1) 3)] σ1) (fun v4 σ3 =>
      some (vi v4, σ3))))))
    else if x2 = (6 : Int32) then
      z_g (z_kd σ1 r0 == 11) (z_g (z_kd σ1 r0 == 11) (z_g (z_kd σ1 (z_r σ1 r0 1) == 5) (z_g (z_kd σ1 (z_r σ1 r0 11) == 1) (z_bI (z_call d 192 [vr (z_r σ1 r0 11), vi x1, vi (z_i σ1 (z_r σ1 r0 1) 3)] σ1) (fun v6 σ5 =>
      some (vi v6, σ5))))))
    else some (vi (-100000 : Int32), σ1)))) := (z_w_eq _ _ _ _ _ _).trans rfl
set_option maxRecDepth 100000 in
theorem e_M_mod (d : Nat) (x0 : Int32) (x1 : Int32) (σ : ZM) : z_call (d + 1) 194 [vi x0, vi x1] σ =
  z_g (!(x1 == 0)) (z_x (x0 - x0 / x1 * x1) (fun u1 => if u1 < 0 then
    some (vi (u1 + x1), σ)
  else
    some (vi u1, σ))) := (z_w_eq _ _ _ _ _ _).trans rfl
set_option maxRecDepth 100000 in
theorem e_M_breathOf (d : Nat) (r0 : Nat) (x1 : Int32) (x2 : Int32) (σ : ZM) : z_call (d + 1) 195 [vr r0, vi x1, vi x2] σ =
  z_g (z_kd σ r0 == 12) (z_bI (z_call d 126 [vr r0, vi x1, vi (3 : Int32)] σ) (fun v2 σ1 =>
  if v2 = (-1 : Int32) then
    some (vi (0 : Int32), σ1)
  else
    z_g (z_kd σ1 r0 == 12) (z_bI (z_call d 126 [vr r0, vi x1, vi (4 : Int32)] σ1) (fun v4 σ3 =>
    if v4 = (2 : Int32) then
      some (vi (0 : Int32), σ3)
    else
      z_g (z_kd σ3 r0 == 12) (z_bI (z_call d 155 [vr r0, vi x1, vi x2] σ3) (fun v6 σ5 =>
      if v6 = 0 then
        z_g (z_kd σ5 r0 == 12) (if x1 = (z_i σ5 r0 24) then
          z_g (z_kd σ5 r0 == 12) (if x2 = (z_i σ5 r0 25) then
            some (vi (0 : Int32), σ5)
          else
            z_w d_M_breathOf (z_call d) 47 [some (vr r0), some (vi x1), some (vi x2), none] [] σ5)
        else
          z_w d_M_breathOf (z_call d) 47 [some (vr r0), some (vi x1), some (vi x2), none] [] σ5)
      else
        some (vi (0 : Int32), σ5))))))) := (z_w_eq _ _ _ _ _ _).trans rfl
set_option maxRecDepth 100000 in
theorem e_M_breathOf_47 (cl : Nat → List ZV → ZM → ZR) (r0 : Nat) (x1 : Int32) (x2 : Int32) (σ : ZM) : z_w d_M_breathOf cl 47 [some (vr r0), some (vi x1), some (vi x2), none] [] σ =
  z_g (z_kd σ r0 == 12) (z_bV (cl 161 [vr r0, vi x1, vi x2] σ) (fun σ1 =>
  z_g (z_kd σ1 r0 == 12) (z_bI (cl 126 [vr r0, vi x1, vi (0 : Int32)] σ1) (fun v3 σ2 =>
  z_g (z_kd σ2 r0 == 12) (z_g (z_at σ2 (z_r σ2 r0 21) 20 (3 : Int32)) (z_g (z_kd σ2 r0 == 12) (z_bI (cl 126 [vr r0, vi x1, vi (1 : Int32)] σ2) (fun v5 σ4 =>
  z_bI (cl 194 [vi (z_i σ2 (z_r σ2 r0 21) (3 : Int32).toNatClampNeg), vi ((2 : Int32) * v5)] σ4) (fun v7 σ6 =>
  z_g (z_kd σ6 r0 == 12) (z_bI (cl 126 [vr r0, vi x1, vi (1 : Int32)] σ6) (fun v9 σ8 =>
  if v7 < v9 then
    z_g (z_kd σ8 r0 == 12) (z_bI (cl 168 [vr r0, vi (0 : Int32), vi v3, vi (-9 : Int32), vi (9 : Int32)] σ8) (fun v13 σ12 =>
    some (vi v13, σ12)))
  else
    z_g (z_kd σ8 r0 == 12) (z_bI (cl 168 [vr r0, vi (0 : Int32), vi (-v3), vi (-9 : Int32), vi (9 : Int32)] σ8) (fun v11 σ10 =>
    some (vi v11, σ10)))))))))))))) := (z_w_eq _ _ _ _ _ _).trans rfl
set_option maxRecDepth 100000 in
theorem e_M_of (d : Nat) (r0 : Nat) (x1 : Int32) (x2 : Int32) (σ : ZM) : z_call (d + 1) 196 [vr r0, vi x1, vi x2] σ =
  z_g (z_kd σ r0 == 12) (z_bI (z_call d 125 [vr r0, vi x1] σ) (fun v2 σ1 =>
  if v2 = 0 then
    some (vi (-100000 : Int32), σ1)
  else
    z_bI (z_call d 19 [vi x2, vi (0 : Int32), vi (6 : Int32)] σ1) (fun v4 σ3 =>
    if v4 = 0 then
      some (vi (-100000 : Int32), σ3)
    else
      if x2 = (5 : Int32) then
        z_g (z_kd σ3 r0 == 12) (z_g (z_at σ3 (z_r σ3 r0 0) 20 (3 : Int32)) (z_g (z_kd σ3 r0 == 12) (z_bI (z_call d 160 [vr r0, vi x1, vi (z_i σ3 (z_r σ3 r0 0) (3 : Int32).toNatClampNeg)] σ3) (fun v10 σ9 =>
        some (vi v10, σ9)))))
      else
        if x2 = (6 : Int32) then
          z_g (z_kd σ3 r0 == 12) (z_g (z_at σ3 (z_r σ3 r0 0) 20 (3 : Int32)) (z_g (z_kd σ3 r0 == 12) (z_bI (z_call d 195 [vr r0, vi x1, vi (z_i σ3 (z_r σ3 r0 0) (3 : Int32).toNatClampNeg)] σ3) (fun v8 σ7 =>
          some (vi v8, σ7)))))
        else
          z_g (z_kd σ3 r0 == 12) (z_bI (z_call d 126 [vr r0, vi x1, vi x2] σ3) (fun v6 σ5 =>
          some (vi v6, σ5)))))) := (z_w_eq _ _ _ _ _ _).trans rfl
set_option maxRecDepth 100000 in
theorem e_B_ofSeat (d : Nat) (r0 : Nat) (x1 : Int32) (x2 : Int32) (σ : ZM) : z_call (d + 1) 197 [vr r0, vi x1, vi x2] σ =
  z_g (z_kd σ r0 == 11) (z_g (z_kd σ (z_r σ r0 0) == 4) (z_bI (z_call d 119 [vr (z_r σ r0 0), vi x1] σ) (fun v2 σ1 =>
  if v2 = 0 then
    some (vi (-2 : Int32), σ1)
  else
    if x2 = (0 : Int32) then
      z_g (z_kd σ1 r0 == 11) (z_g (z_kd σ1 (z_r σ1 r0 0) == 4) (z_g (z_at σ1 (z_r σ1 (z_r σ1 r0 0) 1) 20 x1) (some (vi (z_i σ1 (z_r σ1 (z_r σ1 r0 0) 1) x1.toNatClampNeg), σ1))))
    else if x2 = (1 : Int32) then
      z_g (z_kd σ1 r0 == 11) (z_g (z_kd σ1 (z_r σ1 r0 0) == 4) (z_g (z_at σ1 (z_r σ1 (z_r σ1 r0 0) 2) 20 x1) (some (vi (z_i σ1 (z_r σ1 (z_r σ1 r0 0) 2) x1.toNatClampNeg), σ1))))
    else if x2 = (2 : Int32) then
      z_g (z_kd σ1 r0 == 11) (z_g (z_kd σ1 (z_r σ1 r0 1) == 5) (z_bI (z_call d 120 [vr (z_r σ1 r0 1), vi x1] σ1) (fun v4 σ3 =>
      some (vi v4, σ3))))
    else some (vi (-2 : Int32), σ1)))) := (z_w_eq _ _ _ _ _ _).trans rfl
set_option maxRecDepth 100000 in
theorem e_M_ofSeat (d : Nat) (r0 : Nat) (x1 : Int32) (x2 : Int32) (σ : ZM) : z_call (d + 1) 198 [vr r0, vi x1, vi x2] σ =
  z_g (z_kd σ r0 == 12) (z_bI (z_call d 127 [vr r0, vi x1] σ) (fun v2 σ1 =>
  if v2 = 0 then
    some (vi (-2 : Int32), σ1)
  else
    z_bI (z_call d 19 [vi x2, vi (0 : Int32), vi (2 : Int32)] σ1) (fun v4 σ3 =>
    if v4 = 0 then
      some (vi (-2 : Int32), σ3)
    else
      if x2 = (2 : Int32) then
        z_g (z_kd σ3 r0 == 12) (z_bI (z_call d 128 [vr r0, vi x1] σ3) (fun v8 σ7 =>
        some (vi v8, σ7)))
      else
        z_g (z_kd σ3 r0 == 12) (z_bI (z_call d 159 [vr r0, vi x1, vi x2] σ3) (fun v6 σ5 =>
        some (vi v6, σ5)))))) := (z_w_eq _ _ _ _ _ _).trans rfl
set_option maxRecDepth 100000 in
theorem e_H_hasNote (d : Nat) (r0 : Nat) (x1 : Int32) (σ : ZM) : z_call (d + 1) 199 [vr r0, vi x1] σ =
  if x1 < 0 then
    some (vi (0 : Int32), σ)
  else
    z_g (z_kd σ r0 == 4) (if x1 < (z_i σ r0 7) then
      some (vi (1 : Int32), σ)
    else
      some (vi (0 : Int32), σ)) := (z_w_eq _ _ _ _ _ _).trans rfl
set_option maxRecDepth 100000 in
theorem e_Br_airAt (d : Nat) (r0 : Nat) (x1 : Int32) (σ : ZM) : z_call (d + 1) 200 [vr r0, vi x1] σ =
  z_w d_Br_airAt (z_call d) 4 [some (vr r0), some (vi x1), some (vi (0 : Int32)), some (vi (0 : Int32))] [] σ := (z_w_eq _ _ _ _ _ _).trans rfl
set_option maxRecDepth 100000 in
theorem e_Br_airAt_4 (cl : Nat → List ZV → ZM → ZR) (r0 : Nat) (x1 : Int32) (x2 : Int32) (x3 : Int32) (σ : ZM) : z_w d_Br_airAt cl 4 [some (vr r0), some (vi x1), some (vi x2), some (vi x3)] [] σ =
  z_g (z_kd σ r0 == 1) (z_g (z_kd σ (z_r σ r0 0) == 4) (if x3 < (z_i σ (z_r σ r0 0) 3) then
    z_g (z_kd σ r0 == 1) (z_g (z_kd σ (z_r σ r0 1) == 5) (z_g (z_at σ (z_r σ (z_r σ r0 1) 0) 20 x3) (z_g (z_kd σ r0 == 1) (z_g (z_kd σ (z_r σ r0 1) == 5) (z_g (z_at σ (z_r σ (z_r σ r0 1) 1) 20 x3) (z_g (z_kd σ r0 == 1) (z_g (z_kd σ (z_r σ r0 1) == 5) (z_g (z_kd σ r0 == 1) (z_g (z_kd σ (z_r σ r0 0) == 4) (z_g (z_at σ (z_r σ (z_r σ r0 0) 6) 20 x3) (z_g (z_kd σ r0 == 1) (z_bI (cl 191 [vr r0, vi x3, vi x1, vi (z_i σ (z_r σ (z_r σ r0 1) 0) x3.toNatClampNeg), vi (z_i σ (z_r σ (z_r σ r0 1) 1) x3.toNatClampNeg), vi (z_i σ (z_r σ r0 1) 2), vi (z_i σ (z_r σ (z_r σ r0 0) 6) x3.toNatClampNeg)] σ) (fun v2 σ1 =>
    z_x (x2 + v2) (fun u3 => z_w d_Br_airAt cl 4 [some (vr r0), some (vi x1), some (vi u3), some (vi (x3 + (1 : Int32)))] [] σ1))))))))))))))
  else
    some (vi x2, σ))) := (z_w_eq _ _ _ _ _ _).trans rfl
set_option maxRecDepth 100000 in
theorem e_Br_holdsBy (d : Nat) (r0 : Nat) (r1 : Nat) (x2 : Int32) (x3 : Int32) (x4 : Int32) (σ : ZM) : z_call (d + 1) 201 [vr r0, vr r1, vi x2, vi x3, vi x4] σ =
  z_g (!(r1 == 9)) (if r1 = 0 then
    z_g (z_kd σ r0 == 1) (z_g (z_kd σ (z_r σ r0 0) == 4) (z_g (z_at σ (z_r σ (z_r σ r0 0) 9) 20 x2) (if x4 < (z_i σ (z_r σ (z_r σ r0 0) 9) x2.toNatClampNeg) then
      some (vi (0 : Int32), σ)
    else
      some (vi (1 : Int32), σ))))
  else
    z_g (z_kd σ r1 == 9) (z_g (!((z_r σ r1 2) == 9)) (if (z_r σ r1 2) = 0 then
      z_g (z_kd σ r0 == 1) (z_g (z_kd σ (z_r σ r0 0) == 4) (z_g (z_at σ (z_r σ (z_r σ r0 0) 9) 20 x2) (if x4 < (z_i σ (z_r σ (z_r σ r0 0) 9) x2.toNatClampNeg) then
        some (vi (0 : Int32), σ)
      else
        some (vi (1 : Int32), σ))))
    else
      z_g (z_kd σ r0 == 1) (z_g (z_at σ (z_r σ r0 2) 20 (0 : Int32) && Nat.ble 10 (z_r σ r0 2)) (z_x (z_ui σ (z_r σ r0 2) (0 : Int32).toNatClampNeg x3) (fun σ1 =>
      z_g (z_kd σ1 r0 == 1) (z_g (z_at σ1 (z_r σ1 r0 2) 20 (7 : Int32) && Nat.ble 10 (z_r σ1 r0 2)) (z_x (z_ui σ1 (z_r σ1 r0 2) (7 : Int32).toNatClampNeg x4) (fun σ2 =>
      z_g (z_kd σ2 r0 == 1) (z_g (z_kd σ2 r0 == 1) (z_g (z_kd σ2 (z_r σ2 r0 0) == 4) (z_g (z_at σ2 (z_r σ2 (z_r σ2 r0 0) 9) 20 x2) (z_g (z_at σ2 (z_r σ2 r0 2) 20 (8 : Int32) && Nat.ble 10 (z_r σ2 r0 2)) (z_x (z_ui σ2 (z_r σ2 r0 2) (8 : Int32).toNatClampNeg (z_i σ2 (z_r σ2 (z_r σ2 r0 0) 9) x2.toNatClampNeg)) (fun σ3 =>
      z_g (z_kd σ3 r0 == 1) (z_g (z_at σ3 (z_r σ3 r0 2) 20 (9 : Int32) && Nat.ble 10 (z_r σ3 r0 2)) (z_x (z_ui σ3 (z_r σ3 r0 2) (9 : Int32).toNatClampNeg x2) (fun σ4 =>
      z_g (z_kd σ4 r1 == 9) (z_g (z_kd σ4 r0 == 1) (z_bI (z_call d 150 [vr r0, vr (z_r σ4 r1 2)] σ4) (fun v6 σ5 =>
      if v6 = 0 then
        some (vi (0 : Int32), σ5)
      else
        some (vi (1 : Int32), σ5)))))))))))))))))))))) := (z_w_eq _ _ _ _ _ _).trans rfl
set_option maxRecDepth 100000 in
theorem e_Br_holdsWith (d : Nat) (r0 : Nat) (x1 : Int32) (x2 : Int32) (σ : ZM) : z_call (d + 1) 202 [vr r0, vi x1, vi x2] σ =
  z_g (z_kd σ r0 == 1) (z_g (z_kd σ (z_r σ r0 0) == 4) (z_bR (z_call d 144 [vr (z_r σ r0 0)] σ) (fun v2 σ1 =>
  z_g (z_kd σ1 r0 == 1) (z_g (z_kd σ1 (z_r σ1 r0 0) == 4) (z_g (z_at σ1 (z_r σ1 (z_r σ1 r0 0) 8) 20 x1) (z_g (z_kd σ1 r0 == 1) (z_bI (z_call d 201 [vr r0, vr v2, vi x1, vi (z_i σ1 (z_r σ1 (z_r σ1 r0 0) 8) x1.toNatClampNeg), vi x2] σ1) (fun v4 σ3 =>
  z_g (z_fit 1 v4) (some (vi v4, σ3)))))))))) := (z_w_eq _ _ _ _ _ _).trans rfl
set_option maxRecDepth 100000 in
theorem e_Br_holdsNow (d : Nat) (r0 : Nat) (x1 : Int32) (σ : ZM) : z_call (d + 1) 203 [vr r0, vi x1] σ =
  z_g (z_kd σ r0 == 1) (z_g (z_kd σ (z_r σ r0 0) == 4) (z_g (z_at σ (z_r σ (z_r σ r0 0) 8) 20 x1) (z_g (z_kd σ r0 == 1) (z_bI (z_call d 200 [vr r0, vi (z_i σ (z_r σ (z_r σ r0 0) 8) x1.toNatClampNeg)] σ) (fun v2 σ1 =>
  z_g (z_kd σ1 r0 == 1) (z_bI (z_call d 202 [vr r0, vi x1, vi v2] σ1) (fun v4 σ3 =>
  z_g (z_fit 1 v4) (some (vi v4, σ3))))))))) := (z_w_eq _ _ _ _ _ _).trans rfl
set_option maxRecDepth 100000 in
theorem e_B_ofNote (d : Nat) (r0 : Nat) (x1 : Int32) (x2 : Int32) (σ : ZM) : z_call (d + 1) 204 [vr r0, vi x1, vi x2] σ =
  z_g (z_kd σ r0 == 11) (z_g (z_kd σ (z_r σ r0 0) == 4) (z_bI (z_call d 199 [vr (z_r σ r0 0), vi x1] σ) (fun v2 σ1 =>
  if v2 = 0 then
    some (vi (-100000 : Int32), σ1)
  else
    if x2 = (0 : Int32) then
      z_g (z_kd σ1 r0 == 11) (z_g (z_kd σ1 (z_r σ1 r0 0) == 4) (z_g (z_at σ1 (z_r σ1 (z_r σ1 r0 0) 8) 20 x1) (some (vi (z_i σ1 (z_r σ1 (z_r σ1 r0 0) 8) x1.toNatClampNeg), σ1))))
    else if x2 = (1 : Int32) then
      z_g (z_kd σ1 r0 == 11) (z_g (z_kd σ1 (z_r σ1 r0 0) == 4) (z_g (z_at σ1 (z_r σ1 (z_r σ1 r0 0) 9) 20 x1) (some (vi (z_i σ1 (z_r σ1 (z_r σ1 r0 0) 9) x1.toNatClampNeg), σ1))))
    else if x2 = (2 : Int32) then
      z_g (z_kd σ1 r0 == 11) (z_g (z_kd σ1 r0 == 11) (z_g (z_kd σ1 (z_r σ1 r0 0) == 4) (z_g (z_at σ1 (z_r σ1 (z_r σ1 r0 0) 8) 20 x1) (z_g (z_kd σ1 (z_r σ1 r0 11) == 1) (z_bI (z_call d 200 [vr (z_r σ1 r0 11), vi (z_i σ1 (z_r σ1 (z_r σ1 r0 0) 8) x1.toNatClampNeg)] σ1) (fun v4 σ3 =>
      some (vi v4, σ3)))))))
    else if x2 = (3 : Int32) then
      z_g (z_kd σ1 r0 == 11) (z_g (z_kd σ1 (z_r σ1 r0 11) == 1) (z_bI (z_call d 203 [vr (z_r σ1 r0 11), vi x1] σ1) (fun v6 σ5 =>
      if v6 = 0 then
        some (vi (0 : Int32), σ5)
      else
        some (vi (1 : Int32), σ5))))
    else some (vi (-100000 : Int32), σ1)))) := (z_w_eq _ _ _ _ _ _).trans rfl
set_option maxRecDepth 100000 in
theorem e_M_isNote (d : Nat) (r0 : Nat) (x1 : Int32) (σ : ZM) : z_call (d + 1) 205 [vr r0, vi x1] σ =
  z_g (z_kd σ r0 == 12) (z_g (z_at σ (z_r σ r0 0) 20 (2 : Int32)) (z_bI (z_call d 19 [vi x1, vi (0 : Int32), vi ((z_i σ (z_r σ r0 0) (2 : Int32).toNatClampNeg) - (1 : Int32))] σ) (fun v2 σ1 =>
  z_g (z_fit 1 v2) (some (vi v2, σ1))))) := (z_w_eq _ _ _ _ _ _).trans rfl
set_option maxRecDepth 100000 in
theorem e_M_airAt (d : Nat) (r0 : Nat) (x1 : Int32) (σ : ZM) : z_call (d + 1) 206 [vr r0, vi x1] σ =
  z_w d_M_airAt (z_call d) 4 [some (vr r0), some (vi x1), some (vi (0 : Int32)), some (vi (0 : Int32))] [] σ := (z_w_eq _ _ _ _ _ _).trans rfl
set_option maxRecDepth 100000 in
theorem e_M_airAt_4 (cl : Nat → List ZV → ZM → ZR) (r0 : Nat) (x1 : Int32) (x2 : Int32) (x3 : Int32) (σ : ZM) : z_w d_M_airAt cl 4 [some (vr r0), some (vi x1), some (vi x2), some (vi x3)] [] σ =
  z_g (z_kd σ r0 == 12) (z_g (z_at σ (z_r σ r0 0) 20 (1 : Int32)) (if x3 < (z_i σ (z_r σ r0 0) (1 : Int32).toNatClampNeg) then
    z_g (z_kd σ r0 == 12) (z_bI (cl 195 [vr r0, vi x3, vi x1] σ) (fun v2 σ1 =>
    z_x (x2 + v2) (fun u3 => z_w d_M_airAt cl 4 [some (vr r0), some (vi x1), some (vi u3), some (vi (x3 + (1 : Int32)))] [] σ1)))
  else
    some (vi x2, σ))) := (z_w_eq _ _ _ _ _ _).trans rfl
set_option maxRecDepth 100000 in
theorem e_M_holdsBy (d : Nat) (r0 : Nat) (x1 : Int32) (x2 : Int32) (x3 : Int32) (x4 : Int32) (σ : ZM) : z_call (d + 1) 207 [vr r0, vi x1, vi x2, vi x3, vi x4] σ =
  z_g (z_kd σ r0 == 12) (z_g (z_at σ (z_r σ r0 0) 20 (((82 : Int32) + ((2 : Int32) * x2)) + (1 : Int32))) (z_x (z_i σ (z_r σ r0 0) (((82 : Int32) + ((2 : Int32) * x2)) + (1 : Int32)).toNatClampNeg) (fun u1 => z_g (z_kd σ r0 == 12) (z_bI (z_call d 162 [vr r0, vi x1, vi (2 : Int32)] σ) (fun v3 σ2 =>
  if v3 < 0 then
    if x3 < u1 then
      some (vi (0 : Int32), σ2)
    else
      some (vi (1 : Int32), σ2)
  else
    z_g (z_kd σ2 r0 == 12) (z_g (z_at σ2 (z_r σ2 r0 21) 20 (0 : Int32) && Nat.ble 10 (z_r σ2 r0 21)) (z_x (z_ui σ2 (z_r σ2 r0 21) (0 : Int32).toNatClampNeg x4) (fun σ4 =>
    z_g (z_kd σ4 r0 == 12) (z_g (z_at σ4 (z_r σ4 r0 21) 20 (7 : Int32) && Nat.ble 10 (z_r σ4 r0 21)) (z_x (z_ui σ4 (z_r σ4 r0 21) (7 : Int32).toNatClampNeg x3) (fun σ5 =>
    z_g (z_kd σ5 r0 == 12) (z_g (z_at σ5 (z_r σ5 r0 21) 20 (8 : Int32) && Nat.ble 10 (z_r σ5 r0 21)) (z_x (z_ui σ5 (z_r σ5 r0 21) (8 : Int32).toNatClampNeg u1) (fun σ6 =>
    z_g (z_kd σ6 r0 == 12) (z_g (z_at σ6 (z_r σ6 r0 21) 20 (9 : Int32) && Nat.ble 10 (z_r σ6 r0 21)) (z_x (z_ui σ6 (z_r σ6 r0 21) (9 : Int32).toNatClampNeg x2) (fun σ7 =>
    z_g (z_kd σ7 r0 == 12) (z_bV (z_call d 167 [vr r0, vi x1, vi v3] σ7) (fun σ8 =>
    z_g (z_kd σ8 r0 == 12) (z_g (z_at σ8 (z_r σ8 r0 23) 21 (0 : Int32) || z_at σ8 (z_r σ8 r0 23) 22 (0 : Int32)) (z_g (z_fit 1 (z_i σ8 (z_r σ8 r0 23) (0 : Int32).toNatClampNeg)) (some (vi (z_i σ8 (z_r σ8 r0 23) (0 : Int32).toNatClampNeg), σ8))))))))))))))))))))))) := (z_w_eq _ _ _ _ _ _).trans rfl
set_option maxRecDepth 100000 in
theorem e_M_isHeld (d : Nat) (r0 : Nat) (x1 : Int32) (x2 : Int32) (σ : ZM) : z_call (d + 1) 208 [vr r0, vi x1, vi x2] σ =
  z_g (z_kd σ r0 == 12) (z_g (z_at σ (z_r σ r0 0) 20 ((82 : Int32) + ((2 : Int32) * x1))) (z_x ((z_i σ (z_r σ r0 0) ((82 : Int32) + ((2 : Int32) * x1)).toNatClampNeg) + x2) (fun u1 => z_g (z_kd σ r0 == 12) (z_g (z_at σ (z_r σ r0 0) 20 (6 : Int32)) (z_g (z_kd σ r0 == 12) (z_bI (z_call d 206 [vr r0, vi u1] σ) (fun v3 σ2 =>
  z_g (z_kd σ2 r0 == 12) (z_bI (z_call d 207 [vr r0, vi (z_i σ (z_r σ r0 0) (6 : Int32).toNatClampNeg), vi x1, vi v3, vi u1] σ2) (fun v5 σ4 =>
  z_g (z_fit 1 v5) (some (vi v5, σ4))))))))))) := (z_w_eq _ _ _ _ _ _).trans rfl
set_option maxRecDepth 100000 in
theorem e_M_ofNote (d : Nat) (r0 : Nat) (x1 : Int32) (x2 : Int32) (σ : ZM) : z_call (d + 1) 209 [vr r0, vi x1, vi x2] σ =
  z_g (z_kd σ r0 == 12) (z_bI (z_call d 205 [vr r0, vi x1] σ) (fun v2 σ1 =>
  if v2 = 0 then
    some (vi (-100000 : Int32), σ1)
  else
    if x2 = (0 : Int32) then
      z_g (z_kd σ1 r0 == 12) (z_g (z_at σ1 (z_r σ1 r0 0) 20 ((82 : Int32) + ((2 : Int32) * x1))) (some (vi (z_i σ1 (z_r σ1 r0 0) ((82 : Int32) + ((2 : Int32) * x1)).toNatClampNeg), σ1)))
    else if x2 = (1 : Int32) then
      z_g (z_kd σ1 r0 == 12) (z_g (z_at σ1 (z_r σ1 r0 0) 20 (((82 : Int32) + ((2 : Int32) * x1)) + (1 : Int32))) (some (vi (z_i σ1 (z_r σ1 r0 0) (((82 : Int32) + ((2 : Int32) * x1)) + (1 : Int32)).toNatClampNeg), σ1)))
    else if x2 = (2 : Int32) then
      z_g (z_kd σ1 r0 == 12) (z_g (z_at σ1 (z_r σ1 r0 0) 20 ((82 : Int32) + ((2 : Int32) * x1))) (z_g (z_kd σ1 r0 == 12) (z_bI (z_call d 206 [vr r0, vi (z_i σ1 (z_r σ1 r0 0) ((82 : Int32) + ((2 : Int32) * x1)).toNatClampNeg)] σ1) (fun v4 σ3 =>
      some (vi v4, σ3)))))
    else if x2 = (3 : Int32) then
      z_g (z_kd σ1 r0 == 12) (z_bI (z_call d 208 [vr r0, vi x1, vi (0 : Int32)] σ1) (fun v6 σ5 =>
      if v6 = 0 then
        some (vi (0 : Int32), σ5)
      else
        some (vi (1 : Int32), σ5)))
    else some (vi (-100000 : Int32), σ1))) := (z_w_eq _ _ _ _ _ _).trans rfl
set_option maxRecDepth 100000 in
theorem e_B_air (d : Nat) (r0 : Nat) (x1 : Int32) (σ : ZM) : z_call (d + 1) 210 [vr r0, vi x1] σ =
  z_bI (z_call d 16 [vi x1, vi (0 : Int32), vi (9999 : Int32)] σ) (fun v2 σ1 =>
  if v2 = 0 then
    some (vi (-100000 : Int32), σ1)
  else
    z_g (z_kd σ1 r0 == 11) (z_g (z_kd σ1 (z_r σ1 r0 11) == 1) (z_bI (z_call d 200 [vr (z_r σ1 r0 11), vi x1] σ1) (fun v4 σ3 =>
    some (vi v4, σ3))))) := (z_w_eq _ _ _ _ _ _).trans rfl
set_option maxRecDepth 100000 in
theorem e_M_air (d : Nat) (r0 : Nat) (x1 : Int32) (σ : ZM) : z_call (d + 1) 211 [vr r0, vi x1] σ =
  z_bI (z_call d 19 [vi x1, vi (0 : Int32), vi (9999 : Int32)] σ) (fun v2 σ1 =>
  if v2 = 0 then
    some (vi (-100000 : Int32), σ1)
  else
    z_g (z_kd σ1 r0 == 12) (z_bI (z_call d 206 [vr r0, vi x1] σ1) (fun v4 σ3 =>
    some (vi v4, σ3)))) := (z_w_eq _ _ _ _ _ _).trans rfl
set_option maxRecDepth 100000 in
theorem e_B_coughs (d : Nat) (r0 : Nat) (x1 : Int32) (x2 : Int32) (σ : ZM) : z_call (d + 1) 212 [vr r0, vi x1, vi x2] σ =
  if x1 = (-1 : Int32) then
    z_g (z_kd σ r0 == 11) (z_g (z_kd σ (z_r σ r0 1) == 5) (some (vi (z_i σ (z_r σ r0 1) 5), σ)))
  else
    if x1 < 0 then
      some (vi (-2 : Int32), σ)
    else
      z_g (z_kd σ r0 == 11) (z_g (z_kd σ (z_r σ r0 1) == 5) (if x1 < (z_i σ (z_r σ r0 1) 5) then
        if x2 < 0 then
          some (vi (-2 : Int32), σ)
        else
          if (1 : Int32) < x2 then
            some (vi (-2 : Int32), σ)
          else
            if x2 = 0 then
              z_g (z_kd σ r0 == 11) (z_g (z_kd σ (z_r σ r0 1) == 5) (z_g (z_at σ (z_r σ (z_r σ r0 1) 6) 20 x1) (some (vi (z_i σ (z_r σ (z_r σ r0 1) 6) x1.toNatClampNeg), σ))))
            else
              z_g (z_kd σ r0 == 11) (z_g (z_kd σ (z_r σ r0 1) == 5) (z_g (z_at σ (z_r σ (z_r σ r0 1) 7) 20 x1) (some (vi (z_i σ (z_r σ (z_r σ r0 1) 7) x1.toNatClampNeg), σ))))
      else
        some (vi (-2 : Int32), σ))) := (z_w_eq _ _ _ _ _ _).trans rfl
set_option maxRecDepth 100000 in
theorem e_M_coughs_II (d : Nat) (r0 : Nat) (x1 : Int32) (x2 : Int32) (σ : ZM) : z_call (d + 1) 213 [vr r0, vi x1, vi x2] σ =
  if x1 = (-1 : Int32) then
    z_g (z_kd σ r0 == 12) (z_g (z_at σ (z_r σ r0 0) 20 (11 : Int32)) (some (vi (z_i σ (z_r σ r0 0) (11 : Int32).toNatClampNeg), σ)))
  else
    z_g (z_kd σ r0 == 12) (z_g (z_at σ (z_r σ r0 0) 20 (11 : Int32)) (z_bI (z_call d 19 [vi x1, vi (0 : Int32), vi ((z_i σ (z_r σ r0 0) (11 : Int32).toNatClampNeg) - (1 : Int32))] σ) (fun v2 σ1 =>
    if v2 = 0 then
      some (vi (-2 : Int32), σ1)
    else
      z_bI (z_call d 19 [vi x2, vi (0 : Int32), vi (1 : Int32)] σ1) (fun v4 σ3 =>
      if v4 = 0 then
        some (vi (-2 : Int32), σ3)
      else
        z_g (z_kd σ3 r0 == 12) (z_g (z_at σ3 (z_r σ3 r0 0) 20 (((106 : Int32) + ((2 : Int32) * x1)) + x2)) (some (vi (z_i σ3 (z_r σ3 r0 0) (((106 : Int32) + ((2 : Int32) * x1)) + x2).toNatClampNeg), σ3))))))) := (z_w_eq _ _ _ _ _ _).trans rfl
set_option maxRecDepth 100000 in
theorem e_Qu_takeAirs (d : Nat) (r0 : Nat) (σ : ZM) : z_call (d + 1) 214 [vr r0] σ =
  z_w d_Qu_takeAirs (z_call d) 2 [some (vr r0), some (vi (0 : Int32))] [] σ := (z_w_eq _ _ _ _ _ _).trans rfl
set_option maxRecDepth 100000 in
theorem e_Qu_takeAirs_2 (cl : Nat → List ZV → ZM → ZR) (r0 : Nat) (x1 : Int32) (σ : ZM) : z_w d_Qu_takeAirs cl 2 [some (vr r0), some (vi x1)] [] σ =
  z_g (z_kd σ r0 == 6) (z_g (z_kd σ (z_r σ r0 0) == 4) (if x1 < (z_i σ (z_r σ r0 0) 7) then
    z_g (z_kd σ r0 == 6) (z_g (z_kd σ r0 == 6) (z_g (z_kd σ r0 == 6) (z_g (z_kd σ (z_r σ r0 0) == 4) (z_g (z_at σ (z_r σ (z_r σ r0 0) 8) 20 x1) (z_g (z_kd σ (z_r σ r0 3) == 1) (z_bI (cl 200 [vr (z_r σ r0 3), vi (z_i σ (z_r σ (z_r σ r0 0) 8) x1.toNatClampNeg)] σ) (fun v2 σ1 =>
    z_g (z_at σ1 (z_r σ r0 4) 20 x1 && Nat.ble 10 (z_r σ r0 4)) (z_x (z_ui σ1 (z_r σ r0 4) x1.toNatClampNeg v2) (fun σ3 =>
    z_w d_Qu_takeAirs cl 2 [some (vr r0), some (vi (x1 + (1 : Int32)))] [] σ3)))))))))
  else
    some (vi 0, σ))) := (z_w_eq _ _ _ _ _ _).trans rfl
set_option maxRecDepth 100000 in
theorem e_Qu_fallenBy (d : Nat) (r0 : Nat) (r1 : Nat) (σ : ZM) : z_call (d + 1) 215 [vr r0, vr r1] σ =
  z_w d_Qu_fallenBy (z_call d) 4 [some (vr r0), some (vr r1), some (vi (0 : Int32)), some (vi (0 : Int32))] [] σ := (z_w_eq _ _ _ _ _ _).trans rfl
set_option maxRecDepth 100000 in
theorem e_Qu_fallenBy_4 (cl : Nat → List ZV → ZM → ZR) (r0 : Nat) (r1 : Nat) (x2 : Int32) (x3 : Int32) (σ : ZM) : z_w d_Qu_fallenBy cl 4 [some (vr r0), some (vr r1), some (vi x2), some (vi x3)] [] σ =
  z_g (z_kd σ r0 == 6) (z_g (z_kd σ (z_r σ r0 0) == 4) (if x3 < (z_i σ (z_r σ r0 0) 7) then
    z_g (z_kd σ r0 == 6) (z_g (z_kd σ r0 == 6) (z_g (z_kd σ (z_r σ r0 0) == 4) (z_g (z_at σ (z_r σ (z_r σ r0 0) 8) 20 x3) (z_g (z_kd σ r0 == 6) (z_g (z_at σ (z_r σ r0 4) 20 x3) (z_g (z_kd σ (z_r σ r0 3) == 1) (z_bI (cl 201 [vr (z_r σ r0 3), vr r1, vi x3, vi (z_i σ (z_r σ (z_r σ r0 0) 8) x3.toNatClampNeg), vi (z_i σ (z_r σ r0 4) x3.toNatClampNeg)] σ) (fun v2 σ1 =>
    if v2 = 0 then
      z_x (x2 ||| ((1 : Int32) <<< (x3 &&& 31))) (fun u3 => z_w d_Qu_fallenBy cl 4 [some (vr r0), some (vr r1), some (vi u3), some (vi (x3 + (1 : Int32)))] [] σ1)
    else
      z_w d_Qu_fallenBy cl 4 [some (vr r0), some (vr r1), some (vi x2), some (vi (x3 + (1 : Int32)))] [] σ1))))))))
  else
    some (vi x2, σ))) := (z_w_eq _ _ _ _ _ _).trans rfl
set_option maxRecDepth 100000 in
theorem e_Qu_fallen (d : Nat) (r0 : Nat) (σ : ZM) : z_call (d + 1) 216 [vr r0] σ =
  z_g (z_kd σ r0 == 6) (z_bV (z_call d 214 [vr r0] σ) (fun σ1 =>
  z_g (z_kd σ1 r0 == 6) (z_g (z_kd σ1 (z_r σ1 r0 0) == 4) (z_bR (z_call d 144 [vr (z_r σ1 r0 0)] σ1) (fun v3 σ2 =>
  z_g (z_kd σ2 r0 == 6) (z_bI (z_call d 215 [vr r0, vr v3] σ2) (fun v5 σ4 =>
  some (vi v5, σ4)))))))) := (z_w_eq _ _ _ _ _ _).trans rfl
set_option maxRecDepth 100000 in
theorem e_B_fell (d : Nat) (r0 : Nat) (σ : ZM) : z_call (d + 1) 217 [vr r0] σ =
  z_g (z_kd σ r0 == 11) (z_g (z_kd σ (z_r σ r0 13) == 6) (z_bI (z_call d 216 [vr (z_r σ r0 13)] σ) (fun v2 σ1 =>
  some (vi v2, σ1)))) := (z_w_eq _ _ _ _ _ _).trans rfl
set_option maxRecDepth 100000 in
theorem e_M_falls (d : Nat) (r0 : Nat) (σ : ZM) : z_call (d + 1) 218 [vr r0] σ =
  z_w d_M_falls (z_call d) 4 [some (vr r0), some (vi (0 : Int32)), some (vi (0 : Int32))] [] σ := (z_w_eq _ _ _ _ _ _).trans rfl
set_option maxRecDepth 100000 in
theorem e_M_falls_4 (cl : Nat → List ZV → ZM → ZR) (r0 : Nat) (x1 : Int32) (x2 : Int32) (σ : ZM) : z_w d_M_falls cl 4 [some (vr r0), some (vi x1), some (vi x2)] [] σ =
  z_g (z_kd σ r0 == 12) (z_g (z_at σ (z_r σ r0 0) 20 (2 : Int32)) (if x2 < (z_i σ (z_r σ r0 0) (2 : Int32).toNatClampNeg) then
    z_g (z_kd σ r0 == 12) (z_bI (cl 208 [vr r0, vi x2, vi (0 : Int32)] σ) (fun v2 σ1 =>
    if v2 = 0 then
      z_x (x1 ||| ((1 : Int32) <<< (x2 &&& 31))) (fun u3 => z_w d_M_falls cl 4 [some (vr r0), some (vi u3), some (vi (x2 + (1 : Int32)))] [] σ1)
    else
      z_x (x1 ||| (0 : Int32)) (fun u4 => z_w d_M_falls cl 4 [some (vr r0), some (vi u4), some (vi (x2 + (1 : Int32)))] [] σ1)))
  else
    some (vi x1, σ))) := (z_w_eq _ _ _ _ _ _).trans rfl
set_option maxRecDepth 100000 in
theorem e_M_fell (d : Nat) (r0 : Nat) (σ : ZM) : z_call (d + 1) 219 [vr r0] σ =
  z_g (z_kd σ r0 == 12) (z_bI (z_call d 218 [vr r0] σ) (fun v2 σ1 =>
  some (vi v2, σ1))) := (z_w_eq _ _ _ _ _ _).trans rfl
set_option maxRecDepth 100000 in
theorem e_H_hasNotes (d : Nat) (r0 : Nat) (x1 : Int32) (σ : ZM) : z_call (d + 1) 220 [vr r0, vi x1] σ =
  if x1 < 0 then
    some (vi (0 : Int32), σ)
  else
    z_g (z_kd σ r0 == 4) (if x1 < ((1 : Int32) <<< ((z_i σ r0 7) &&& 31)) then
      some (vi (1 : Int32), σ)
    else
      some (vi (0 : Int32), σ)) := (z_w_eq _ _ _ _ _ _).trans rfl
set_option maxRecDepth 100000 in
theorem e_Br_breathOtherwise (d : Nat) (r0 : Nat) (x1 : Int32) (x2 : Int32) (x3 : Int32) (σ : ZM) : z_call (d + 1) 221 [vr r0, vi x1, vi x2, vi x3] σ =
  z_g (z_kd σ r0 == 1) (z_g (z_kd σ (z_r σ r0 1) == 5) (z_g (z_at σ (z_r σ (z_r σ r0 1) 1) 20 x1) (if (z_i σ (z_r σ (z_r σ r0 1) 1) x1.toNatClampNeg) = (1 : Int32) then
    z_g (z_kd σ r0 == 1) (z_g (z_kd σ (z_r σ r0 1) == 5) (z_g (z_at σ (z_r σ (z_r σ r0 1) 0) 20 x1) (z_g (z_kd σ r0 == 1) (z_g (z_kd σ (z_r σ r0 0) == 4) (z_g (z_at σ (z_r σ (z_r σ r0 0) 6) 20 x1) (z_g (z_kd σ r0 == 1) (z_bI (z_call d 191 [vr r0, vi x1, vi x2, vi (z_i σ (z_r σ (z_r σ r0 1) 0) x1.toNatClampNeg), vi (0 : Int32), vi x3, vi (z_i σ (z_r σ (z_r σ r0 0) 6) x1.toNatClampNeg)] σ) (fun v4 σ3 =>
    some (vi v4, σ3)))))))))
  else
    z_g (z_kd σ r0 == 1) (z_g (z_kd σ (z_r σ r0 1) == 5) (z_g (z_at σ (z_r σ (z_r σ r0 1) 0) 20 x1) (z_g (z_kd σ r0 == 1) (z_g (z_kd σ (z_r σ r0 0) == 4) (z_g (z_at σ (z_r σ (z_r σ r0 0) 6) 20 x1) (z_g (z_kd σ r0 == 1) (z_bI (z_call d 191 [vr r0, vi x1, vi x2, vi (z_i σ (z_r σ (z_r σ r0 1) 0) x1.toNatClampNeg), vi (1 : Int32), vi x3, vi (z_i σ (z_r σ (z_r σ r0 0) 6) x1.toNatClampNeg)] σ) (fun v2 σ1 =>
    some (vi v2, σ1)))))))))))) := (z_w_eq _ _ _ _ _ _).trans rfl
set_option maxRecDepth 100000 in
theorem e_Qu_isOutBy (d : Nat) (r0 : Nat) (x1 : Int32) (x2 : Int32) (σ : ZM) : z_call (d + 1) 222 [vr r0, vi x1, vi x2] σ =
  z_w d_Qu_isOutBy (z_call d) 2 [some (vr r0), some (vi x1), some (vi x2), some (vi (0 : Int32)), none, none] [] σ := (z_w_eq _ _ _ _ _ _).trans rfl
set_option maxRecDepth 100000 in
theorem e_Qu_isOutBy_2 (cl : Nat → List ZV → ZM → ZR) (r0 : Nat) (x1 : Int32) (x2 : Int32) (x3 : Int32) (σ : ZM) : z_w d_Qu_isOutBy cl 2 [some (vr r0), some (vi x1), some (vi x2), some (vi x3), none, none] [] σ =
  z_g (z_kd σ r0 == 6) (z_g (z_kd σ (z_r σ r0 0) == 4) (if x3 < (z_i σ (z_r σ r0 0) 7) then
    z_g (z_kd σ r0 == 6) (z_g (z_kd σ (z_r σ r0 0) == 4) (z_g (z_at σ (z_r σ (z_r σ r0 0) 8) 20 x3) (z_x (z_i σ (z_r σ (z_r σ r0 0) 8) x3.toNatClampNeg) (fun u1 => z_g (z_kd σ r0 == 6) (z_g (z_at σ (z_r σ r0 4) 20 x3) (z_g (z_kd σ r0 == 6) (z_g (z_kd σ (z_r σ r0 3) == 1) (z_bI (cl 192 [vr (z_r σ r0 3), vi x1, vi u1] σ) (fun v3 σ2 =>
    z_g (z_kd σ2 r0 == 6) (z_g (z_kd σ2 r0 == 6) (z_g (z_kd σ2 (z_r σ2 r0 1) == 5) (z_g (z_kd σ2 (z_r σ2 r0 3) == 1) (z_bI (cl 221 [vr (z_r σ2 r0 3), vi x1, vi u1, vi (z_i σ2 (z_r σ2 r0 1) 2)] σ2) (fun v5 σ4 =>
    z_x (((z_i σ (z_r σ r0 4) x3.toNatClampNeg) - v3) + v5) (fun u6 => z_g (z_kd σ4 r0 == 6) (z_g (z_kd σ4 (z_r σ4 r0 3) == 1) (z_bI (cl 202 [vr (z_r σ4 r0 3), vi x3, vi u6] σ4) (fun v8 σ7 =>
    z_bI (cl 137 [vi x2, vi x3] σ7) (fun v10 σ9 =>
    if v8 = v10 then
      some (vi (0 : Int32), σ9)
    else
      z_w d_Qu_isOutBy cl 2 [some (vr r0), some (vi x1), some (vi x2), some (vi (x3 + (1 : Int32))), none, none] [] σ9)))))))))))))))))))
  else
    some (vi (1 : Int32), σ))) := (z_w_eq _ _ _ _ _ _).trans rfl
set_option maxRecDepth 100000 in
theorem e_Qu_outBy (d : Nat) (r0 : Nat) (x1 : Int32) (σ : ZM) : z_call (d + 1) 223 [vr r0, vi x1] σ =
  z_g (z_kd σ r0 == 6) (z_bV (z_call d 214 [vr r0] σ) (fun σ1 =>
  z_w d_Qu_outBy (z_call d) 8 [some (vr r0), some (vi x1), some (vi (0 : Int32)), some (vi (0 : Int32))] [] σ1)) := (z_w_eq _ _ _ _ _ _).trans rfl
set_option maxRecDepth 100000 in
theorem e_Qu_outBy_8 (cl : Nat → List ZV → ZM → ZR) (r0 : Nat) (x1 : Int32) (x2 : Int32) (x3 : Int32) (σ : ZM) : z_w d_Qu_outBy cl 8 [some (vr r0), some (vi x1), some (vi x2), some (vi x3)] [] σ =
  z_g (z_kd σ r0 == 6) (z_g (z_kd σ (z_r σ r0 0) == 4) (if x3 < (z_i σ (z_r σ r0 0) 3) then
    z_g (z_kd σ r0 == 6) (z_bI (cl 222 [vr r0, vi x3, vi x1] σ) (fun v2 σ1 =>
    if v2 = 0 then
      z_w d_Qu_outBy cl 8 [some (vr r0), some (vi x1), some (vi x2), some (vi (x3 + (1 : Int32)))] [] σ1
    else
      z_x (x2 ||| ((1 : Int32) <<< (x3 &&& 31))) (fun u3 => z_w d_Qu_outBy cl 8 [some (vr r0), some (vi x1), some (vi u3), some (vi (x3 + (1 : Int32)))] [] σ1)))
  else
    some (vi x2, σ))) := (z_w_eq _ _ _ _ _ _).trans rfl
set_option maxRecDepth 100000 in
theorem e_B_whoIsOut (d : Nat) (r0 : Nat) (x1 : Int32) (σ : ZM) : z_call (d + 1) 224 [vr r0, vi x1] σ =
  z_g (z_kd σ r0 == 11) (z_g (z_kd σ (z_r σ r0 0) == 4) (z_bI (z_call d 220 [vr (z_r σ r0 0), vi x1] σ) (fun v2 σ1 =>
  if v2 = 0 then
    some (vi (-1 : Int32), σ1)
  else
    z_g (z_kd σ1 r0 == 11) (z_g (z_kd σ1 (z_r σ1 r0 13) == 6) (z_bI (z_call d 223 [vr (z_r σ1 r0 13), vi x1] σ1) (fun v4 σ3 =>
    some (vi v4, σ3))))))) := (z_w_eq _ _ _ _ _ _).trans rfl
set_option maxRecDepth 100000 in
theorem e_M_areNotes (d : Nat) (r0 : Nat) (x1 : Int32) (σ : ZM) : z_call (d + 1) 225 [vr r0, vi x1] σ =
  z_g (z_kd σ r0 == 12) (z_g (z_at σ (z_r σ r0 0) 20 (2 : Int32)) (z_bI (z_call d 19 [vi x1, vi (0 : Int32), vi (((1 : Int32) <<< ((z_i σ (z_r σ r0 0) (2 : Int32).toNatClampNeg) &&& 31)) - (1 : Int32))] σ) (fun v2 σ1 =>
  z_g (z_fit 1 v2) (some (vi v2, σ1))))) := (z_w_eq _ _ _ _ _ _).trans rfl
set_option maxRecDepth 100000 in
theorem e_M_turned (d : Nat) (r0 : Nat) (x1 : Int32) (σ : ZM) : z_call (d + 1) 226 [vr r0, vi x1] σ =
  z_g (z_kd σ r0 == 12) (z_bI (z_call d 126 [vr r0, vi x1, vi (4 : Int32)] σ) (fun v2 σ1 =>
  if v2 = (1 : Int32) then
    z_g (z_kd σ1 r0 == 12) (z_bV (z_call d 23 [vr r0, vi x1, vi (4 : Int32), vi (0 : Int32)] σ1) (fun σ4 =>
    some (vi v2, σ4)))
  else
    z_g (z_kd σ1 r0 == 12) (z_bV (z_call d 23 [vr r0, vi x1, vi (4 : Int32), vi (1 : Int32)] σ1) (fun σ3 =>
    some (vi v2, σ3))))) := (z_w_eq _ _ _ _ _ _).trans rfl
set_option maxRecDepth 100000 in
theorem e_M_whoIsOut (d : Nat) (r0 : Nat) (x1 : Int32) (σ : ZM) : z_call (d + 1) 227 [vr r0, vi x1] σ =
  z_g (z_kd σ r0 == 12) (z_bI (z_call d 225 [vr r0, vi x1] σ) (fun v2 σ1 =>
  if v2 = 0 then
    some (vi (-1 : Int32), σ1)
  else
    z_w d_M_whoIsOut (z_call d) 14 [some (vr r0), some (vi x1), some (vi (0 : Int32)), some (vi (0 : Int32)), none] [] σ1)) := (z_w_eq _ _ _ _ _ _).trans rfl
set_option maxRecDepth 100000 in
theorem e_M_whoIsOut_14 (cl : Nat → List ZV → ZM → ZR) (r0 : Nat) (x1 : Int32) (x2 : Int32) (x3 : Int32) (σ : ZM) : z_w d_M_whoIsOut cl 14 [some (vr r0), some (vi x1), some (vi x2), some (vi x3), none] [] σ =
  z_g (z_kd σ r0 == 12) (z_g (z_at σ (z_r σ r0 0) 20 (1 : Int32)) (if x3 < (z_i σ (z_r σ r0 0) (1 : Int32).toNatClampNeg) then
    z_g (z_kd σ r0 == 12) (z_bI (cl 226 [vr r0, vi x3] σ) (fun v2 σ1 =>
    z_g (z_kd σ1 r0 == 12) (z_bI (cl 218 [vr r0] σ1) (fun v4 σ3 =>
    if v4 = x1 then
      z_x (x2 ||| ((1 : Int32) <<< (x3 &&& 31))) (fun u7 => z_g (z_kd σ3 r0 == 12) (z_bV (cl 23 [vr r0, vi x3, vi (4 : Int32), vi v2] σ3) (fun σ8 =>
      z_w d_M_whoIsOut cl 14 [some (vr r0), some (vi x1), some (vi u7), some (vi (x3 + (1 : Int32))), none] [] σ8)))
    else
      z_x (x2 ||| (0 : Int32)) (fun u5 => z_g (z_kd σ3 r0 == 12) (z_bV (cl 23 [vr r0, vi x3, vi (4 : Int32), vi v2] σ3) (fun σ6 =>
      z_w d_M_whoIsOut cl 14 [some (vr r0), some (vi x1), some (vi u5), some (vi (x3 + (1 : Int32))), none] [] σ6)))))))
  else
    some (vi x2, σ))) := (z_w_eq _ _ _ _ _ _).trans rfl
set_option maxRecDepth 100000 in
theorem e_Qu_isHiccup (d : Nat) (r0 : Nat) (x1 : Int32) (x2 : Int32) (x3 : Int32) (x4 : Int32) (σ : ZM) : z_call (d + 1) 228 [vr r0, vi x1, vi x2, vi x3, vi x4] σ =
  z_g (z_kd σ r0 == 6) (z_g (z_kd σ (z_r σ r0 0) == 4) (z_g (z_at σ (z_r σ (z_r σ r0 0) 8) 20 x2) (z_x (z_i σ (z_r σ (z_r σ r0 0) 8) x2.toNatClampNeg) (fun u1 => z_g (z_kd σ r0 == 6) (z_g (z_kd σ (z_r σ r0 1) == 5) (z_bI (z_call d 141 [vr (z_r σ r0 1), vi x1, vi u1] σ) (fun v3 σ2 =>
  if v3 = 0 then
    z_g (z_kd σ2 r0 == 6) (z_g (z_at σ2 (z_r σ2 r0 4) 20 x2) (z_g (z_kd σ2 r0 == 6) (z_g (z_kd σ2 (z_r σ2 r0 3) == 1) (z_bI (z_call d 192 [vr (z_r σ2 r0 3), vi x1, vi u1] σ2) (fun v5 σ4 =>
    z_x ((z_i σ2 (z_r σ2 r0 4) x2.toNatClampNeg) - v5) (fun u6 => z_w d_Qu_isHiccup (z_call d) 48 [some (vr r0), none, none, some (vi x3), some (vi x4), some (vi u1), some (vi u6), some (vi (0 : Int32)), none] [] σ4))))))
  else
    some (vi (0 : Int32), σ2)))))))) := (z_w_eq _ _ _ _ _ _).trans rfl
set_option maxRecDepth 100000 in
theorem e_Qu_isHiccup_48 (cl : Nat → List ZV → ZM → ZR) (r0 : Nat) (x3 : Int32) (x4 : Int32) (x5 : Int32) (x6 : Int32) (x7 : Int32) (σ : ZM) : z_w d_Qu_isHiccup cl 48 [some (vr r0), none, none, some (vi x3), some (vi x4), some (vi x5), some (vi x6), some (vi x7), none] [] σ =
  z_g (z_kd σ r0 == 6) (z_g (z_kd σ (z_r σ r0 0) == 4) (if x7 < (z_i σ (z_r σ r0 0) 7) then
    z_g (z_kd σ r0 == 6) (z_g (z_kd σ (z_r σ r0 0) == 4) (z_g (z_at σ (z_r σ (z_r σ r0 0) 8) 20 x7) (if (z_i σ (z_r σ (z_r σ r0 0) 8) x7.toNatClampNeg) = x5 then
      z_g (z_kd σ r0 == 6) (z_g (z_kd σ (z_r σ r0 3) == 1) (z_bI (cl 202 [vr (z_r σ r0 3), vi x7, vi x6] σ) (fun v6 σ5 =>
      if v6 = 0 then
        z_bI (cl 137 [vi x4, vi x7] σ5) (fun v10 σ9 =>
        if (1 : Int32) = v10 then
          z_w d_Qu_isHiccup cl 48 [some (vr r0), none, none, some (vi x3), some (vi x4), some (vi x5), some (vi x6), some (vi (x7 + (1 : Int32))), none] [] σ9
        else
          some (vi (0 : Int32), σ9))
      else
        z_bI (cl 137 [vi x4, vi x7] σ5) (fun v8 σ7 =>
        if (0 : Int32) = v8 then
          z_w d_Qu_isHiccup cl 48 [some (vr r0), none, none, some (vi x3), some (vi x4), some (vi x5), some (vi x6), some (vi (x7 + (1 : Int32))), none] [] σ7
        else
          some (vi (0 : Int32), σ7)))))
    else
      z_bI (cl 137 [vi x3, vi x7] σ) (fun v2 σ1 =>
      z_bI (cl 137 [vi x4, vi x7] σ1) (fun v4 σ3 =>
      if v2 = v4 then
        z_w d_Qu_isHiccup cl 48 [some (vr r0), none, none, some (vi x3), some (vi x4), some (vi x5), some (vi x6), some (vi (x7 + (1 : Int32))), none] [] σ3
      else
        some (vi (0 : Int32), σ3))))))
  else
    some (vi (1 : Int32), σ))) := (z_w_eq _ _ _ _ _ _).trans rfl
set_option maxRecDepth 100000 in
theorem e_Qu_hiccups (d : Nat) (r0 : Nat) (x1 : Int32) (x2 : Int32) (σ : ZM) : z_call (d + 1) 229 [vr r0, vi x1, vi x2] σ =
  if x2 < (-1 : Int32) then
    some (vi (-1 : Int32), σ)
  else
    z_g (z_kd σ r0 == 6) (z_bV (z_call d 214 [vr r0] σ) (fun σ1 =>
    z_g (z_kd σ1 r0 == 6) (z_g (z_kd σ1 (z_r σ1 r0 0) == 4) (z_bR (z_call d 144 [vr (z_r σ1 r0 0)] σ1) (fun v3 σ2 =>
    z_g (z_kd σ2 r0 == 6) (z_bI (z_call d 215 [vr r0, vr v3] σ2) (fun v5 σ4 =>
    z_w d_Qu_hiccups (z_call d) 29 [some (vr r0), some (vi x1), some (vi x2), some (vi v5), some (vi (0 : Int32)), some (vi (0 : Int32)), none] [] σ4))))))) := (z_w_eq _ _ _ _ _ _).trans rfl
set_option maxRecDepth 100000 in
theorem e_Qu_hiccups_29 (cl : Nat → List ZV → ZM → ZR) (r0 : Nat) (x1 : Int32) (x2 : Int32) (x3 : Int32) (x4 : Int32) (x5 : Int32) (σ : ZM) : z_w d_Qu_hiccups cl 29 [some (vr r0), some (vi x1), some (vi x2), some (vi x3), some (vi x4), some (vi x5), none] [] σ =
  z_g (z_kd σ r0 == 6) (z_g (z_kd σ (z_r σ r0 0) == 4) (if x5 < (z_i σ (z_r σ r0 0) 3) then
    z_w d_Qu_hiccups cl 44 [some (vr r0), some (vi x1), some (vi x2), some (vi x3), some (vi x4), some (vi x5), some (vi (0 : Int32))] [] σ
  else
    if x2 = (-1 : Int32) then
      some (vi x4, σ)
    else
      some (vi (-1 : Int32), σ))) := (z_w_eq _ _ _ _ _ _).trans rfl
set_option maxRecDepth 100000 in
theorem e_Qu_hiccups_44 (cl : Nat → List ZV → ZM → ZR) (r0 : Nat) (x1 : Int32) (x2 : Int32) (x3 : Int32) (x4 : Int32) (x5 : Int32) (x6 : Int32) (σ : ZM) : z_w d_Qu_hiccups cl 44 [some (vr r0), some (vi x1), some (vi x2), some (vi x3), some (vi x4), some (vi x5), some (vi x6)] [] σ =
  z_g (z_kd σ r0 == 6) (z_g (z_kd σ (z_r σ r0 0) == 4) (if x6 < (z_i σ (z_r σ r0 0) 7) then
    z_g (z_kd σ r0 == 6) (z_bI (cl 228 [vr r0, vi x5, vi x6, vi x3, vi x1] σ) (fun v2 σ1 =>
    if v2 = 0 then
      z_w d_Qu_hiccups cl 44 [some (vr r0), some (vi x1), some (vi x2), some (vi x3), some (vi x4), some (vi x5), some (vi (x6 + (1 : Int32)))] [] σ1
    else
      if x4 = x2 then
        some (vi (((100 : Int32) * x5) + x6), σ1)
      else
        z_x (x4 + (1 : Int32)) (fun u3 => z_w d_Qu_hiccups cl 44 [some (vr r0), some (vi x1), some (vi x2), some (vi x3), some (vi u3), some (vi x5), some (vi (x6 + (1 : Int32)))] [] σ1)))
  else
    z_w d_Qu_hiccups cl 29 [some (vr r0), some (vi x1), some (vi x2), some (vi x3), some (vi x4), some (vi (x5 + (1 : Int32))), none] [] σ)) := (z_w_eq _ _ _ _ _ _).trans rfl
set_option maxRecDepth 100000 in
theorem e_B_hiccupped (d : Nat) (r0 : Nat) (x1 : Int32) (x2 : Int32) (σ : ZM) : z_call (d + 1) 230 [vr r0, vi x1, vi x2] σ =
  z_g (z_kd σ r0 == 11) (z_g (z_kd σ (z_r σ r0 0) == 4) (z_bI (z_call d 220 [vr (z_r σ r0 0), vi x1] σ) (fun v2 σ1 =>
  if v2 = 0 then
    some (vi (-1 : Int32), σ1)
  else
    z_g (z_kd σ1 r0 == 11) (z_g (z_kd σ1 (z_r σ1 r0 13) == 6) (z_bI (z_call d 229 [vr (z_r σ1 r0 13), vi x1, vi x2] σ1) (fun v4 σ3 =>
    some (vi v4, σ3))))))) := (z_w_eq _ _ _ _ _ _).trans rfl
set_option maxRecDepth 100000 in
theorem e_M_fallsWith (d : Nat) (r0 : Nat) (x1 : Int32) (x2 : Int32) (σ : ZM) : z_call (d + 1) 231 [vr r0, vi x1, vi x2] σ =
  z_g (z_kd σ r0 == 12) (z_x (z_ui σ r0 24 x1) (fun σ1 =>
  z_g (z_kd σ1 r0 == 12) (z_x (z_ui σ1 r0 25 x2) (fun σ2 =>
  z_g (z_kd σ2 r0 == 12) (z_bI (z_call d 218 [vr r0] σ2) (fun v4 σ3 =>
  z_g (z_kd σ3 r0 == 12) (z_x (z_ui σ3 r0 24 (-1 : Int32)) (fun σ5 =>
  some (vi v4, σ5))))))))) := (z_w_eq _ _ _ _ _ _).trans rfl
set_option maxRecDepth 100000 in
theorem e_M_hiccupped (d : Nat) (r0 : Nat) (x1 : Int32) (x2 : Int32) (σ : ZM) : z_call (d + 1) 232 [vr r0, vi x1, vi x2] σ =
  z_g (z_kd σ r0 == 12) (z_bI (z_call d 225 [vr r0, vi x1] σ) (fun v2 σ1 =>
  if v2 = 0 then
    some (vi (-1 : Int32), σ1)
  else
    if x2 < (-1 : Int32) then
      some (vi (-1 : Int32), σ1)
    else
      z_w d_M_hiccupped (z_call d) 20 [some (vr r0), some (vi x1), some (vi x2), some (vi (0 : Int32)), some (vi (0 : Int32)), none, none] [] σ1)) := (z_w_eq _ _ _ _ _ _).trans rfl
set_option maxRecDepth 100000 in
theorem e_M_hiccupped_20 (cl : Nat → List ZV → ZM → ZR) (r0 : Nat) (x1 : Int32) (x2 : Int32) (x3 : Int32) (x4 : Int32) (σ : ZM) : z_w d_M_hiccupped cl 20 [some (vr r0), some (vi x1), some (vi x2), some (vi x3), some (vi x4), none, none] [] σ =
  z_g (z_kd σ r0 == 12) (z_g (z_at σ (z_r σ r0 0) 20 (1 : Int32)) (if x4 < (z_i σ (z_r σ r0 0) (1 : Int32).toNatClampNeg) then
    z_w d_M_hiccupped cl 34 [some (vr r0), some (vi x1), some (vi x2), some (vi x3), some (vi x4), some (vi (0 : Int32)), none] [] σ
  else
    if x2 = (-1 : Int32) then
      some (vi x3, σ)
    else
      some (vi (-1 : Int32), σ))) := (z_w_eq _ _ _ _ _ _).trans rfl
set_option maxRecDepth 100000 in
theorem e_M_hiccupped_34 (cl : Nat → List ZV → ZM → ZR) (r0 : Nat) (x1 : Int32) (x2 : Int32) (x3 : Int32) (x4 : Int32) (x5 : Int32) (σ : ZM) : z_w d_M_hiccupped cl 34 [some (vr r0), some (vi x1), some (vi x2), some (vi x3), some (vi x4), some (vi x5), none] [] σ =
  z_g (z_kd σ r0 == 12) (z_g (z_at σ (z_r σ r0 0) 20 (2 : Int32)) (if x5 < (z_i σ (z_r σ r0 0) (2 : Int32).toNatClampNeg) then
    z_g (z_kd σ r0 == 12) (z_g (z_at σ (z_r σ r0 0) 20 ((82 : Int32) + ((2 : Int32) * x5))) (z_x (z_i σ (z_r σ r0 0) ((82 : Int32) + ((2 : Int32) * x5)).toNatClampNeg) (fun u1 => z_g (z_kd σ r0 == 12) (z_bI (cl 155 [vr r0, vi x4, vi u1] σ) (fun v3 σ2 =>
    if v3 = 0 then
      z_g (z_kd σ2 r0 == 12) (z_bI (cl 231 [vr r0, vi x4, vi u1] σ2) (fun v5 σ4 =>
      if v5 = x1 then
        if x3 = x2 then
          some (vi (((100 : Int32) * x4) + x5), σ4)
        else
          z_x (x3 + (1 : Int32)) (fun u6 => z_w d_M_hiccupped cl 34 [some (vr r0), some (vi x1), some (vi x2), some (vi u6), some (vi x4), some (vi (x5 + (1 : Int32))), none] [] σ4)
      else
        z_w d_M_hiccupped cl 34 [some (vr r0), some (vi x1), some (vi x2), some (vi x3), some (vi x4), some (vi (x5 + (1 : Int32))), none] [] σ4))
    else
      z_w d_M_hiccupped cl 34 [some (vr r0), some (vi x1), some (vi x2), some (vi x3), some (vi x4), some (vi (x5 + (1 : Int32))), none] [] σ2)))))
  else
    z_w d_M_hiccupped cl 20 [some (vr r0), some (vi x1), some (vi x2), some (vi x3), some (vi (x4 + (1 : Int32))), none, none] [] σ)) := (z_w_eq _ _ _ _ _ _).trans rfl
set_option maxRecDepth 100000 in
theorem e_In_bitCount (d : Nat) (x0 : Int32) (σ : ZM) : z_call (d + 1) 233 [vi x0] σ =
  z_x (x0 - ((x0.toUInt32 >>> ((1 : Int32).toUInt32 &&& Int32.toUInt32 31)).toInt32 &&& (1431655765 : Int32))) (fun u1 => z_x ((u1 &&& (858993459 : Int32)) + ((u1.toUInt32 >>> ((2 : Int32).toUInt32 &&& Int32.toUInt32 31)).toInt32 &&& (858993459 : Int32))) (fun u2 => z_x ((u2 + (u2.toUInt32 >>> ((4 : Int32).toUInt32 &&& Int32.toUInt32 31)).toInt32) &&& (252645135 : Int32)) (fun u3 => z_x (u3 + (u3.toUInt32 >>> ((8 : Int32).toUInt32 &&& Int32.toUInt32 31)).toInt32) (fun u4 => z_x (u4 + (u4.toUInt32 >>> ((16 : Int32).toUInt32 &&& Int32.toUInt32 31)).toInt32) (fun u5 => some (vi (u5 &&& (63 : Int32)), σ)))))) := (z_w_eq _ _ _ _ _ _).trans rfl
set_option maxRecDepth 100000 in
theorem e_H_isSmallSet (d : Nat) (r0 : Nat) (x1 : Int32) (x2 : Int32) (σ : ZM) : z_call (d + 1) 234 [vr r0, vi x1, vi x2] σ =
  if 0 < x1 then
    if x1 < ((1 : Int32) <<< (x2 &&& 31)) then
      z_bI (z_call d 233 [vi x1] σ) (fun v2 σ1 =>
      if (5 : Int32) < v2 then
        some (vi (0 : Int32), σ1)
      else
        some (vi (1 : Int32), σ1))
    else
      some (vi (0 : Int32), σ)
  else
    some (vi (0 : Int32), σ) := (z_w_eq _ _ _ _ _ _).trans rfl
set_option maxRecDepth 100000 in
theorem e_Ga_listMembers (d : Nat) (x0 : Int32) (r1 : Nat) (σ : ZM) : z_call (d + 1) 235 [vi x0, vr r1] σ =
  z_w d_Ga_listMembers (z_call d) 4 [some (vi x0), some (vr r1), some (vi (0 : Int32)), some (vi (0 : Int32))] [] σ := (z_w_eq _ _ _ _ _ _).trans rfl
set_option maxRecDepth 100000 in
theorem e_Ga_listMembers_4 (cl : Nat → List ZV → ZM → ZR) (x0 : Int32) (r1 : Nat) (x2 : Int32) (x3 : Int32) (σ : ZM) : z_w d_Ga_listMembers cl 4 [some (vi x0), some (vr r1), some (vi x2), some (vi x3)] [] σ =
  if x3 < (10 : Int32) then
    z_g (Nat.ble 20 (z_kd σ r1) && Nat.ble (z_kd σ r1) 24) (if x2 < (nI (z_ln σ r1)) then
      z_bI (cl 137 [vi x0, vi x3] σ) (fun v2 σ1 =>
      if v2 = 0 then
        z_w d_Ga_listMembers cl 4 [some (vi x0), some (vr r1), some (vi x2), some (vi (x3 + (1 : Int32)))] [] σ1
      else
        z_g (z_at σ1 r1 20 x2 && Nat.ble 10 r1) (z_x (z_ui σ1 r1 x2.toNatClampNeg x3) (fun σ3 =>
        z_x (x2 + (1 : Int32)) (fun u4 => z_w d_Ga_listMembers cl 4 [some (vi x0), some (vr r1), some (vi u4), some (vi (x3 + (1 : Int32)))] [] σ3))))
    else
      some (vi x2, σ))
  else
    some (vi x2, σ) := (z_w_eq _ _ _ _ _ _).trans rfl
set_option maxRecDepth 100000 in
theorem e_Ga_indexIn (d : Nat) (r0 : Nat) (x1 : Int32) (x2 : Int32) (σ : ZM) : z_call (d + 1) 236 [vr r0, vi x1, vi x2] σ =
  z_w d_Ga_indexIn (z_call d) 2 [some (vr r0), some (vi x1), some (vi x2), some (vi (0 : Int32))] [] σ := (z_w_eq _ _ _ _ _ _).trans rfl
set_option maxRecDepth 100000 in
theorem e_Ga_indexIn_2 (cl : Nat → List ZV → ZM → ZR) (r0 : Nat) (x1 : Int32) (x2 : Int32) (x3 : Int32) (σ : ZM) : z_w d_Ga_indexIn cl 2 [some (vr r0), some (vi x1), some (vi x2), some (vi x3)] [] σ =
  if x3 < x1 then
    z_g (z_at σ r0 20 x3) (if (z_i σ r0 x3.toNatClampNeg) = x2 then
      some (vi x3, σ)
    else
      z_w d_Ga_indexIn cl 2 [some (vr r0), some (vi x1), some (vi x2), some (vi (x3 + (1 : Int32)))] [] σ)
  else
    some (vi (-1 : Int32), σ) := (z_w_eq _ _ _ _ _ _).trans rfl
set_option maxRecDepth 100000 in
theorem e_Ga_airOfOthers (d : Nat) (r0 : Nat) (x1 : Int32) (x2 : Int32) (x3 : Int32) (σ : ZM) : z_call (d + 1) 237 [vr r0, vi x1, vi x2, vi x3] σ =
  z_w d_Ga_airOfOthers (z_call d) 6 [some (vr r0), some (vi x1), some (vi x2), some (vi x3), some (vi (0 : Int32)), some (vi (0 : Int32)), none] [] σ := (z_w_eq _ _ _ _ _ _).trans rfl
set_option maxRecDepth 100000 in
theorem e_Ga_airOfOthers_6 (cl : Nat → List ZV → ZM → ZR) (r0 : Nat) (x1 : Int32) (x2 : Int32) (x3 : Int32) (x4 : Int32) (x5 : Int32) (σ : ZM) : z_w d_Ga_airOfOthers cl 6 [some (vr r0), some (vi x1), some (vi x2), some (vi x3), some (vi x4), some (vi x5), none] [] σ =
  z_g (z_kd σ r0 == 3) (z_g (z_kd σ (z_r σ r0 0) == 4) (if x5 < (z_i σ (z_r σ r0 0) 3) then
    z_g (z_kd σ r0 == 3) (z_g (z_kd σ (z_r σ r0 1) == 5) (z_g (z_at σ (z_r σ (z_r σ r0 1) 0) 20 x5) (z_x (z_i σ (z_r σ (z_r σ r0 1) 0) x5.toNatClampNeg) (fun u1 => z_bI (cl 137 [vi x2, vi x5] σ) (fun v3 σ2 =>
    if v3 = 0 then
      if u1 = (-1 : Int32) then
        z_w d_Ga_airOfOthers cl 6 [some (vr r0), some (vi x1), some (vi x2), some (vi x3), some (vi x4), some (vi (x5 + (1 : Int32))), none] [] σ2
      else
        z_bI (cl 137 [vi x3, vi u1] σ2) (fun v5 σ4 =>
        if v5 = 0 then
          z_g (z_kd σ4 r0 == 3) (z_g (z_kd σ4 r0 == 3) (z_g (z_kd σ4 (z_r σ4 r0 1) == 5) (z_g (z_at σ4 (z_r σ4 (z_r σ4 r0 1) 1) 20 x5) (z_g (z_kd σ4 r0 == 3) (z_g (z_kd σ4 (z_r σ4 r0 1) == 5) (z_g (z_kd σ4 r0 == 3) (z_g (z_kd σ4 (z_r σ4 r0 0) == 4) (z_g (z_at σ4 (z_r σ4 (z_r σ4 r0 0) 6) 20 x5) (z_g (z_kd σ4 (z_r σ4 r0 3) == 1) (z_bI (cl 191 [vr (z_r σ4 r0 3), vi x5, vi x1, vi u1, vi (z_i σ4 (z_r σ4 (z_r σ4 r0 1) 1) x5.toNatClampNeg), vi (z_i σ4 (z_r σ4 r0 1) 2), vi (z_i σ4 (z_r σ4 (z_r σ4 r0 0) 6) x5.toNatClampNeg)] σ4) (fun v7 σ6 =>
          z_x (x4 + v7) (fun u8 => z_w d_Ga_airOfOthers cl 6 [some (vr r0), some (vi x1), some (vi x2), some (vi x3), some (vi u8), some (vi (x5 + (1 : Int32))), none] [] σ6))))))))))))
        else
          z_w d_Ga_airOfOthers cl 6 [some (vr r0), some (vi x1), some (vi x2), some (vi x3), some (vi x4), some (vi (x5 + (1 : Int32))), none] [] σ4)
    else
      z_w d_Ga_airOfOthers cl 6 [some (vr r0), some (vi x1), some (vi x2), some (vi x3), some (vi x4), some (vi (x5 + (1 : Int32))), none] [] σ2)))))
  else
    some (vi x4, σ))) := (z_w_eq _ _ _ _ _ _).trans rfl
set_option maxRecDepth 100000 in
theorem e_Br_askOf (d : Nat) (r0 : Nat) (x1 : Int32) (σ : ZM) : z_call (d + 1) 238 [vr r0, vi x1] σ =
  z_g (z_kd σ r0 == 1) (z_g (z_kd σ r0 == 1) (z_x (z_ui σ r0 5 ((z_i σ r0 5) + (1 : Int32))) (fun σ1 =>
  z_g (z_kd σ1 r0 == 1) (z_x (z_ui σ1 r0 6 x1) (fun σ2 =>
  some (vi 0, σ2)))))) := (z_w_eq _ _ _ _ _ _).trans rfl
set_option maxRecDepth 100000 in
theorem e_Ga_firstOrder (d : Nat) (r0 : Nat) (x1 : Int32) (σ : ZM) : z_call (d + 1) 239 [vr r0, vi x1] σ =
  z_w d_Ga_firstOrder (z_call d) 2 [some (vr r0), some (vi x1), some (vi (0 : Int32))] [] σ := (z_w_eq _ _ _ _ _ _).trans rfl
set_option maxRecDepth 100000 in
theorem e_Ga_firstOrder_2 (cl : Nat → List ZV → ZM → ZR) (r0 : Nat) (x1 : Int32) (x2 : Int32) (σ : ZM) : z_w d_Ga_firstOrder cl 2 [some (vr r0), some (vi x1), some (vi x2)] [] σ =
  if x2 < x1 then
    z_g (z_kd σ r0 == 3) (z_g (z_at σ (z_r σ r0 6) 20 x2 && Nat.ble 10 (z_r σ r0 6)) (z_x (z_ui σ (z_r σ r0 6) x2.toNatClampNeg x2) (fun σ1 =>
    z_w d_Ga_firstOrder cl 2 [some (vr r0), some (vi x1), some (vi (x2 + (1 : Int32)))] [] σ1)))
  else
    some (vi 0, σ) := (z_w_eq _ _ _ _ _ _).trans rfl
set_option maxRecDepth 100000 in
theorem e_Br_wouldHold (d : Nat) (r0 : Nat) (x1 : Int32) (σ : ZM) : z_call (d + 1) 240 [vr r0, vi x1] σ =
  z_x (x1 + (90 : Int32)) (fun u1 => if u1 < 0 then
    z_w d_Br_wouldHold (z_call d) 23 [some (vr r0), some (vi x1), some (vi u1), none, none] [vi (0 : Int32)] σ
  else
    z_g (z_kd σ r0 == 1) (z_g (Nat.ble 20 (z_kd σ (z_r σ r0 4)) && Nat.ble (z_kd σ (z_r σ r0 4)) 24) (if u1 < (nI (z_ln σ (z_r σ r0 4))) then
      z_w d_Br_wouldHold (z_call d) 23 [some (vr r0), some (vi x1), some (vi u1), none, none] [vi (1 : Int32)] σ
    else
      z_w d_Br_wouldHold (z_call d) 23 [some (vr r0), some (vi x1), some (vi u1), none, none] [vi (0 : Int32)] σ))) := (z_w_eq _ _ _ _ _ _).trans rfl
set_option maxRecDepth 100000 in
theorem e_Br_wouldHold_23 (cl : Nat → List ZV → ZM → ZR) (r0 : Nat) (x1 : Int32) (x2 : Int32) (s0 : Int32) (σ : ZM) : z_w d_Br_wouldHold cl 23 [some (vr r0), some (vi x1), some (vi x2), none, none] [vi s0] σ =
  if s0 = 0 then
    z_g (z_kd σ r0 == 1) (z_g (z_kd σ (z_r σ r0 0) == 4) (z_bR (cl 144 [vr (z_r σ r0 0)] σ) (fun v2 σ1 =>
    z_g (z_kd σ1 r0 == 1) (z_g (z_kd σ1 r0 == 1) (z_g (z_kd σ1 (z_r σ1 r0 0) == 4) (z_g (z_kd σ1 r0 == 1) (z_g (z_at σ1 (z_r σ1 (z_r σ1 r0 0) 8) 20 (z_i σ1 r0 6)) (z_g (z_kd σ1 r0 == 1) (z_bI (cl 201 [vr r0, vr v2, vi (z_i σ1 r0 6), vi (z_i σ1 (z_r σ1 (z_r σ1 r0 0) 8) (z_i σ1 r0 6).toNatClampNeg), vi x1] σ1) (fun v4 σ3 =>
    if s0 = 0 then
      z_g (z_fit 1 v4) (some (vi v4, σ3))
    else
      z_g (z_kd σ3 r0 == 1) (z_g (z_kd σ3 r0 == 1) (if v4 = 0 then
        z_g (z_at σ3 (z_r σ3 r0 4) 20 x2 && Nat.ble 10 (z_r σ3 r0 4)) (z_x (z_ui σ3 (z_r σ3 r0 4) x2.toNatClampNeg (((2 : Int32) * (z_i σ3 r0 5)) + (0 : Int32))) (fun σ5 =>
        z_g (z_fit 1 v4) (some (vi v4, σ5))))
      else
        z_g (z_at σ3 (z_r σ3 r0 4) 20 x2 && Nat.ble 10 (z_r σ3 r0 4)) (z_x (z_ui σ3 (z_r σ3 r0 4) x2.toNatClampNeg (((2 : Int32) * (z_i σ3 r0 5)) + (1 : Int32))) (fun σ6 =>
        z_g (z_fit 1 v4) (some (vi v4, σ6))))))))))))))))
  else
    z_g (z_kd σ r0 == 1) (z_g (z_at σ (z_r σ r0 4) 20 x2) (z_g (z_kd σ r0 == 1) (if ((z_i σ (z_r σ r0 4) x2.toNatClampNeg) >>> ((1 : Int32) &&& 31)) = (z_i σ r0 5) then
      z_g (z_kd σ r0 == 1) (z_g (z_at σ (z_r σ r0 4) 20 x2) (if ((z_i σ (z_r σ r0 4) x2.toNatClampNeg) &&& (1 : Int32)) = 0 then
        some (vi (0 : Int32), σ)
      else
        some (vi (1 : Int32), σ)))
    else
      z_g (z_kd σ r0 == 1) (z_g (z_kd σ (z_r σ r0 0) == 4) (z_bR (cl 144 [vr (z_r σ r0 0)] σ) (fun v8 σ7 =>
      z_g (z_kd σ7 r0 == 1) (z_g (z_kd σ7 r0 == 1) (z_g (z_kd σ7 (z_r σ7 r0 0) == 4) (z_g (z_kd σ7 r0 == 1) (z_g (z_at σ7 (z_r σ7 (z_r σ7 r0 0) 8) 20 (z_i σ7 r0 6)) (z_g (z_kd σ7 r0 == 1) (z_bI (cl 201 [vr r0, vr v8, vi (z_i σ7 r0 6), vi (z_i σ7 (z_r σ7 (z_r σ7 r0 0) 8) (z_i σ7 r0 6).toNatClampNeg), vi x1] σ7) (fun v10 σ9 =>
      if s0 = 0 then
        z_g (z_fit 1 v10) (some (vi v10, σ9))
      else
        z_g (z_kd σ9 r0 == 1) (z_g (z_kd σ9 r0 == 1) (if v10 = 0 then
          z_g (z_at σ9 (z_r σ9 r0 4) 20 x2 && Nat.ble 10 (z_r σ9 r0 4)) (z_x (z_ui σ9 (z_r σ9 r0 4) x2.toNatClampNeg (((2 : Int32) * (z_i σ9 r0 5)) + (0 : Int32))) (fun σ11 =>
          z_g (z_fit 1 v10) (some (vi v10, σ11))))
        else
          z_g (z_at σ9 (z_r σ9 r0 4) 20 x2 && Nat.ble 10 (z_r σ9 r0 4)) (z_x (z_ui σ9 (z_r σ9 r0 4) x2.toNatClampNeg (((2 : Int32) * (z_i σ9 r0 5)) + (1 : Int32))) (fun σ12 =>
          z_g (z_fit 1 v10) (some (vi v10, σ12))))))))))))))))))) := (z_w_eq _ _ _ _ _ _).trans rfl
set_option maxRecDepth 100000 in
theorem e_Ga_swapOrder (d : Nat) (r0 : Nat) (x1 : Int32) (x2 : Int32) (σ : ZM) : z_call (d + 1) 241 [vr r0, vi x1, vi x2] σ =
  z_g (z_kd σ r0 == 3) (z_g (z_at σ (z_r σ r0 6) 20 x1) (z_x (z_i σ (z_r σ r0 6) x1.toNatClampNeg) (fun u1 => z_g (z_kd σ r0 == 3) (z_g (z_kd σ r0 == 3) (z_g (z_at σ (z_r σ r0 6) 20 x2) (z_g (z_at σ (z_r σ r0 6) 20 x1 && Nat.ble 10 (z_r σ r0 6)) (z_x (z_ui σ (z_r σ r0 6) x1.toNatClampNeg (z_i σ (z_r σ r0 6) x2.toNatClampNeg)) (fun σ2 =>
  z_g (z_kd σ2 r0 == 3) (z_g (z_at σ2 (z_r σ2 r0 6) 20 x2 && Nat.ble 10 (z_r σ2 r0 6)) (z_x (z_ui σ2 (z_r σ2 r0 6) x2.toNatClampNeg u1) (fun σ3 =>
  some (vi 0, σ3)))))))))))) := (z_w_eq _ _ _ _ _ _).trans rfl
set_option maxRecDepth 100000 in
theorem e_Ga_nextOrder (d : Nat) (r0 : Nat) (x1 : Int32) (σ : ZM) : z_call (d + 1) 242 [vr r0, vi x1] σ =
  z_x (x1 - (2 : Int32)) (fun u1 => z_w d_Ga_nextOrder (z_call d) 4 [some (vr r0), some (vi x1), some (vi u1), none, none, none] [] σ) := (z_w_eq _ _ _ _ _ _).trans rfl
set_option maxRecDepth 100000 in
theorem e_Ga_nextOrder_4 (cl : Nat → List ZV → ZM → ZR) (r0 : Nat) (x1 : Int32) (x2 : Int32) (σ : ZM) : z_w d_Ga_nextOrder cl 4 [some (vr r0), some (vi x1), some (vi x2), none, none, none] [] σ =
  if x2 < 0 then
    if x2 < 0 then
      some (vi (0 : Int32), σ)
    else
      z_x (x1 - (1 : Int32)) (fun u1 => z_w d_Ga_nextOrder cl 41 [some (vr r0), some (vi x1), some (vi x2), some (vi u1), none, none] [] σ)
  else
    z_g (z_kd σ r0 == 3) (z_g (z_at σ (z_r σ r0 6) 20 x2) (z_g (z_kd σ r0 == 3) (z_g (z_at σ (z_r σ r0 6) 20 (x2 + (1 : Int32))) (if (z_i σ (z_r σ r0 6) (x2 + (1 : Int32)).toNatClampNeg) < (z_i σ (z_r σ r0 6) x2.toNatClampNeg) then
      z_w d_Ga_nextOrder cl 4 [some (vr r0), some (vi x1), some (vi (x2 + (-1 : Int32))), none, none, none] [] σ
    else
      if x2 < 0 then
        some (vi (0 : Int32), σ)
      else
        z_x (x1 - (1 : Int32)) (fun u2 => z_w d_Ga_nextOrder cl 41 [some (vr r0), some (vi x1), some (vi x2), some (vi u2), none, none] [] σ))))) := (z_w_eq _ _ _ _ _ _).trans rfl
set_option maxRecDepth 100000 in
theorem e_Ga_nextOrder_41 (cl : Nat → List ZV → ZM → ZR) (r0 : Nat) (x1 : Int32) (x2 : Int32) (x3 : Int32) (σ : ZM) : z_w d_Ga_nextOrder cl 41 [some (vr r0), some (vi x1), some (vi x2), some (vi x3), none, none] [] σ =
  if x2 < x3 then
    z_g (z_kd σ r0 == 3) (z_g (z_at σ (z_r σ r0 6) 20 x3) (z_g (z_kd σ r0 == 3) (z_g (z_at σ (z_r σ r0 6) 20 x2) (if (z_i σ (z_r σ r0 6) x3.toNatClampNeg) < (z_i σ (z_r σ r0 6) x2.toNatClampNeg) then
      z_w d_Ga_nextOrder cl 41 [some (vr r0), some (vi x1), some (vi x2), some (vi (x3 + (-1 : Int32))), none, none] [] σ
    else
      z_g (z_kd σ r0 == 3) (z_bV (cl 241 [vr r0, vi x2, vi x3] σ) (fun σ4 =>
      z_x (x2 + (1 : Int32)) (fun u5 => z_x (x1 - (1 : Int32)) (fun u6 => z_w d_Ga_nextOrder cl 83 [some (vr r0), none, none, none, some (vi u5), some (vi u6)] [] σ4))))))))
  else
    z_g (z_kd σ r0 == 3) (z_bV (cl 241 [vr r0, vi x2, vi x3] σ) (fun σ1 =>
    z_x (x2 + (1 : Int32)) (fun u2 => z_x (x1 - (1 : Int32)) (fun u3 => z_w d_Ga_nextOrder cl 83 [some (vr r0), none, none, none, some (vi u2), some (vi u3)] [] σ1)))) := (z_w_eq _ _ _ _ _ _).trans rfl
set_option maxRecDepth 100000 in
theorem e_Ga_nextOrder_83 (cl : Nat → List ZV → ZM → ZR) (r0 : Nat) (x4 : Int32) (x5 : Int32) (σ : ZM) : z_w d_Ga_nextOrder cl 83 [some (vr r0), none, none, none, some (vi x4), some (vi x5)] [] σ =
  if x4 < x5 then
    z_g (z_kd σ r0 == 3) (z_bV (cl 241 [vr r0, vi x4, vi x5] σ) (fun σ1 =>
    z_x (x4 + (1 : Int32)) (fun u2 => z_w d_Ga_nextOrder cl 83 [some (vr r0), none, none, none, some (vi u2), some (vi (x5 + (-1 : Int32)))] [] σ1)))
  else
    some (vi (1 : Int32), σ) := (z_w_eq _ _ _ _ _ _).trans rfl
set_option maxRecDepth 100000 in
theorem e_Ga_countHeld (d : Nat) (r0 : Nat) (x1 : Int32) (x2 : Int32) (x3 : Int32) (x4 : Int32) (σ : ZM) : z_call (d + 1) 243 [vr r0, vi x1, vi x2, vi x3, vi x4] σ =
  z_g (z_kd σ r0 == 3) (z_g (z_kd σ (z_r σ r0 0) == 4) (z_g (z_at σ (z_r σ (z_r σ r0 0) 8) 20 x1) (z_x (z_i σ (z_r σ (z_r σ r0 0) 8) x1.toNatClampNeg) (fun u1 => z_g (z_kd σ r0 == 3) (z_bI (z_call d 237 [vr r0, vi u1, vi x3, vi x4] σ) (fun v3 σ2 =>
  z_w d_Ga_countHeld (z_call d) 25 [some (vr r0), some (vi x1), some (vi x2), none, none, some (vi u1), some (vi v3), some (vi (0 : Int32)), none, none, none] [] σ2)))))) := (z_w_eq _ _ _ _ _ _).trans rfl
set_option maxRecDepth 100000 in
theorem e_Ga_countHeld_25 (cl : Nat → List ZV → ZM → ZR) (r0 : Nat) (x1 : Int32) (x2 : Int32) (x5 : Int32) (x6 : Int32) (x7 : Int32) (σ : ZM) : z_w d_Ga_countHeld cl 25 [some (vr r0), some (vi x1), some (vi x2), none, none, some (vi x5), some (vi x6), some (vi x7), none, none, none] [] σ =
  if x7 < x2 then
    z_g (z_kd σ r0 == 3) (z_g (z_at σ (z_r σ r0 4) 20 x7) (z_x (z_i σ (z_r σ r0 4) x7.toNatClampNeg) (fun u3 => z_w d_Ga_countHeld cl 43 [some (vr r0), some (vi x1), some (vi x2), none, none, some (vi x5), some (vi x6), some (vi x7), some (vi u3), some (vi (0 : Int32)), none] [] σ)))
  else
    z_g (z_kd σ r0 == 3) (z_g (z_kd σ (z_r σ r0 3) == 1) (z_bV (cl 238 [vr (z_r σ r0 3), vi x1] σ) (fun σ1 =>
    z_g (z_kd σ1 r0 == 3) (z_bV (cl 239 [vr r0, vi x2] σ1) (fun σ2 =>
    z_w d_Ga_countHeld cl 137 [some (vr r0), none, some (vi x2), none, none, none, some (vi x6), some (vi (1 : Int32)), some (vi (0 : Int32)), none, none] [] σ2))))) := (z_w_eq _ _ _ _ _ _).trans rfl
set_option maxRecDepth 100000 in
theorem e_Ga_countHeld_43 (cl : Nat → List ZV → ZM → ZR) (r0 : Nat) (x1 : Int32) (x2 : Int32) (x5 : Int32) (x6 : Int32) (x7 : Int32) (x8 : Int32) (x9 : Int32) (σ : ZM) : z_w d_Ga_countHeld cl 43 [some (vr r0), some (vi x1), some (vi x2), none, none, some (vi x5), some (vi x6), some (vi x7), some (vi x8), some (vi x9), none] [] σ =
  if x9 < x2 then
    z_g (z_kd σ r0 == 3) (z_g (z_kd σ r0 == 3) (z_g (z_kd σ r0 == 3) (z_g (z_at σ (z_r σ r0 5) 20 x9) (z_g (z_kd σ r0 == 3) (z_g (z_kd σ (z_r σ r0 1) == 5) (z_g (z_at σ (z_r σ (z_r σ r0 1) 1) 20 x8) (z_g (z_kd σ r0 == 3) (z_g (z_kd σ (z_r σ r0 1) == 5) (z_g (z_kd σ r0 == 3) (z_g (z_kd σ (z_r σ r0 0) == 4) (z_g (z_at σ (z_r σ (z_r σ r0 0) 6) 20 x8) (z_g (z_kd σ (z_r σ r0 3) == 1) (z_bI (cl 191 [vr (z_r σ r0 3), vi x8, vi x5, vi (z_i σ (z_r σ r0 5) x9.toNatClampNeg), vi (z_i σ (z_r σ (z_r σ r0 1) 1) x8.toNatClampNeg), vi (z_i σ (z_r σ r0 1) 2), vi (z_i σ (z_r σ (z_r σ r0 0) 6) x8.toNatClampNeg)] σ) (fun v2 σ1 =>
    z_g (z_at σ1 (z_r σ r0 7) 20 ((x7 * (5 : Int32)) + x9) && Nat.ble 10 (z_r σ r0 7)) (z_x (z_ui σ1 (z_r σ r0 7) ((x7 * (5 : Int32)) + x9).toNatClampNeg v2) (fun σ3 =>
    z_w d_Ga_countHeld cl 43 [some (vr r0), some (vi x1), some (vi x2), none, none, some (vi x5), some (vi x6), some (vi x7), some (vi x8), some (vi (x9 + (1 : Int32))), none] [] σ3))))))))))))))))
  else
    z_w d_Ga_countHeld cl 25 [some (vr r0), some (vi x1), some (vi x2), none, none, some (vi x5), some (vi x6), some (vi (x7 + (1 : Int32))), none, none, none] [] σ := (z_w_eq _ _ _ _ _ _).trans rfl
set_option maxRecDepth 100000 in
theorem e_Ga_countHeld_137 (cl : Nat → List ZV → ZM → ZR) (r0 : Nat) (x2 : Int32) (x6 : Int32) (x7 : Int32) (x8 : Int32) (σ : ZM) : z_w d_Ga_countHeld cl 137 [some (vr r0), none, some (vi x2), none, none, none, some (vi x6), some (vi x7), some (vi x8), none, none] [] σ =
  if x8 < (120 : Int32) then
    if x7 = 0 then
      some (vi 0, σ)
    else
      z_w d_Ga_countHeld cl 156 [some (vr r0), none, some (vi x2), none, none, none, some (vi x6), none, some (vi x8), some (vi x6), some (vi (0 : Int32))] [] σ
  else
    some (vi 0, σ) := (z_w_eq _ _ _ _ _ _).trans rfl
set_option maxRecDepth 100000 in
theorem e_Ga_countHeld_156 (cl : Nat → List ZV → ZM → ZR) (r0 : Nat) (x2 : Int32) (x6 : Int32) (x8 : Int32) (x9 : Int32) (x10 : Int32) (σ : ZM) : z_w d_Ga_countHeld cl 156 [some (vr r0), none, some (vi x2), none, none, none, some (vi x6), none, some (vi x8), some (vi x9), some (vi x10)] [] σ =
  if x10 < x2 then
    z_g (z_kd σ r0 == 3) (z_g (z_kd σ r0 == 3) (z_g (z_at σ (z_r σ r0 6) 20 x10) (z_g (z_at σ (z_r σ r0 7) 20 ((x10 * (5 : Int32)) + (z_i σ (z_r σ r0 6) x10.toNatClampNeg))) (z_x (x9 + (z_i σ (z_r σ r0 7) ((x10 * (5 : Int32)) + (z_i σ (z_r σ r0 6) x10.toNatClampNeg)).toNatClampNeg)) (fun u10 => z_w d_Ga_countHeld cl 156 [some (vr r0), none, some (vi x2), none, none, none, some (vi x6), none, some (vi x8), some (vi u10), some (vi (x10 + (1 : Int32)))] [] σ)))))
  else
    z_g (z_kd σ r0 == 3) (z_x (z_r σ r0 8) (fun u1 => z_g (z_at σ u1 20 x8) (z_g (z_kd σ r0 == 3) (z_g (z_kd σ (z_r σ r0 3) == 1) (z_bI (cl 240 [vr (z_r σ r0 3), vi x9] σ) (fun v3 σ2 =>
    if v3 = 0 then
      z_g (z_at σ2 u1 20 x8 && Nat.ble 10 u1) (z_x (z_ui σ2 u1 x8.toNatClampNeg ((z_i σ u1 x8.toNatClampNeg) + (0 : Int32))) (fun σ4 =>
      z_g (z_kd σ4 r0 == 3) (z_bI (cl 242 [vr r0, vi x2] σ4) (fun v6 σ5 =>
      z_w d_Ga_countHeld cl 137 [some (vr r0), none, some (vi x2), none, none, none, some (vi x6), some (vi v6), some (vi (x8 + (1 : Int32))), none, none] [] σ5))))
    else
      z_g (z_at σ2 u1 20 x8 && Nat.ble 10 u1) (z_x (z_ui σ2 u1 x8.toNatClampNeg ((z_i σ u1 x8.toNatClampNeg) + (1 : Int32))) (fun σ7 =>
      z_g (z_kd σ7 r0 == 3) (z_bI (cl 242 [vr r0, vi x2] σ7) (fun v9 σ8 =>
      z_w d_Ga_countHeld cl 137 [some (vr r0), none, some (vi x2), none, none, none, some (vi x6), some (vi v9), some (vi (x8 + (1 : Int32))), none, none] [] σ8)))))))))) := (z_w_eq _ _ _ _ _ _).trans rfl
set_option maxRecDepth 100000 in
theorem e_Ga_orderAt (d : Nat) (r0 : Nat) (x1 : Int32) (x2 : Int32) (x3 : Int32) (σ : ZM) : z_call (d + 1) 244 [vr r0, vi x1, vi x2, vi x3] σ =
  z_g (z_kd σ r0 == 3) (z_bV (z_call d 239 [vr r0, vi x2] σ) (fun σ1 =>
  z_w d_Ga_orderAt (z_call d) 8 [some (vr r0), some (vi x1), some (vi x2), some (vi x3), some (vi (0 : Int32))] [] σ1)) := (z_w_eq _ _ _ _ _ _).trans rfl
set_option maxRecDepth 100000 in
theorem e_Ga_orderAt_8 (cl : Nat → List ZV → ZM → ZR) (r0 : Nat) (x1 : Int32) (x2 : Int32) (x3 : Int32) (x4 : Int32) (σ : ZM) : z_w d_Ga_orderAt cl 8 [some (vr r0), some (vi x1), some (vi x2), some (vi x3), some (vi x4)] [] σ =
  if x4 < x1 then
    z_g (z_kd σ r0 == 3) (z_bI (cl 242 [vr r0, vi x2] σ) (fun v2 σ1 =>
    z_w d_Ga_orderAt cl 8 [some (vr r0), some (vi x1), some (vi x2), some (vi x3), some (vi (x4 + (1 : Int32)))] [] σ1))
  else
    if x3 < 0 then
      some (vi (0 : Int32), σ)
    else
      if x3 < x2 then
        z_g (z_kd σ r0 == 3) (z_g (z_at σ (z_r σ r0 6) 20 x3) (some (vi (z_i σ (z_r σ r0 6) x3.toNatClampNeg), σ)))
      else
        some (vi (0 : Int32), σ) := (z_w_eq _ _ _ _ _ _).trans rfl
set_option maxRecDepth 100000 in
theorem e_Ga_bestSeats (d : Nat) (r0 : Nat) (x1 : Int32) (x2 : Int32) (x3 : Int32) (σ : ZM) : z_call (d + 1) 245 [vr r0, vi x1, vi x2, vi x3] σ =
  z_g (z_kd σ r0 == 3) (z_g (z_kd σ r0 == 3) (z_g (z_kd σ (z_r σ r0 0) == 4) (z_g (z_kd σ (z_r σ r0 0) == 4) (z_bI (z_call d 234 [vr (z_r σ r0 0), vi x1, vi (z_i σ (z_r σ r0 0) 3)] σ) (fun v2 σ1 =>
  if v2 = 0 then
    some (vi (-1 : Int32), σ1)
  else
    z_g (z_kd σ1 r0 == 3) (z_g (z_kd σ1 r0 == 3) (z_g (z_kd σ1 (z_r σ1 r0 0) == 4) (z_g (z_kd σ1 (z_r σ1 r0 0) == 4) (z_bI (z_call d 234 [vr (z_r σ1 r0 0), vi x2, vi (z_i σ1 (z_r σ1 r0 0) 0)] σ1) (fun v4 σ3 =>
    if v4 = 0 then
      some (vi (-1 : Int32), σ3)
    else
      z_bI (z_call d 233 [vi x1] σ3) (fun v6 σ5 =>
      z_bI (z_call d 233 [vi x2] σ5) (fun v8 σ7 =>
      if v6 = v8 then
        z_g (z_kd σ7 r0 == 3) (z_bI (z_call d 235 [vi x1, vr (z_r σ7 r0 4)] σ7) (fun v10 σ9 =>
        z_g (z_kd σ9 r0 == 3) (z_bI (z_call d 235 [vi x2, vr (z_r σ9 r0 5)] σ9) (fun v12 σ11 =>
        z_g (z_kd σ11 r0 == 3) (z_bI (z_call d 236 [vr (z_r σ11 r0 4), vi v10, vi x3] σ11) (fun v14 σ13 =>
        if x3 = (-1 : Int32) then
          z_g (z_kd σ13 r0 == 3) (z_bV (z_call d 4 [vr (z_r σ13 r0 8), vi (0 : Int32)] σ13) (fun σ15 =>
          z_w d_Ga_bestSeats (z_call d) 104 [some (vr r0), some (vi x1), some (vi x2), some (vi x3), some (vi v10), some (vi v14), some (vi (0 : Int32)), none] [] σ15))
        else
          if v14 = (-1 : Int32) then
            some (vi (-1 : Int32), σ13)
          else
            z_g (z_kd σ13 r0 == 3) (z_bV (z_call d 4 [vr (z_r σ13 r0 8), vi (0 : Int32)] σ13) (fun σ16 =>
            z_w d_Ga_bestSeats (z_call d) 104 [some (vr r0), some (vi x1), some (vi x2), some (vi x3), some (vi v10), some (vi v14), some (vi (0 : Int32)), none] [] σ16))))))))
      else
        some (vi (-1 : Int32), σ7))))))))))))) := (z_w_eq _ _ _ _ _ _).trans rfl
set_option maxRecDepth 100000 in
theorem e_Ga_bestSeats_104 (cl : Nat → List ZV → ZM → ZR) (r0 : Nat) (x1 : Int32) (x2 : Int32) (x3 : Int32) (x4 : Int32) (x5 : Int32) (x6 : Int32) (σ : ZM) : z_w d_Ga_bestSeats cl 104 [some (vr r0), some (vi x1), some (vi x2), some (vi x3), some (vi x4), some (vi x5), some (vi x6), none] [] σ =
  z_g (z_kd σ r0 == 3) (z_g (z_kd σ (z_r σ r0 0) == 4) (if x6 < (z_i σ (z_r σ r0 0) 7) then
    z_g (z_kd σ r0 == 3) (z_bV (cl 243 [vr r0, vi x6, vi x4, vi x1, vi x2] σ) (fun σ1 =>
    z_w d_Ga_bestSeats cl 104 [some (vr r0), some (vi x1), some (vi x2), some (vi x3), some (vi x4), some (vi x5), some (vi (x6 + (1 : Int32))), none] [] σ1))
  else
    z_w d_Ga_bestSeats cl 138 [some (vr r0), none, none, some (vi x3), some (vi x4), some (vi x5), some (vi (0 : Int32)), some (vi (1 : Int32))] [] σ)) := (z_w_eq _ _ _ _ _ _).trans rfl
set_option maxRecDepth 100000 in
theorem e_Ga_bestSeats_138 (cl : Nat → List ZV → ZM → ZR) (r0 : Nat) (x3 : Int32) (x4 : Int32) (x5 : Int32) (x6 : Int32) (x7 : Int32) (σ : ZM) : z_w d_Ga_bestSeats cl 138 [some (vr r0), none, none, some (vi x3), some (vi x4), some (vi x5), some (vi x6), some (vi x7)] [] σ =
  if x7 < (120 : Int32) then
    z_g (z_kd σ r0 == 3) (z_g (z_at σ (z_r σ r0 8) 20 x7) (z_g (z_kd σ r0 == 3) (z_g (z_at σ (z_r σ r0 8) 20 x6) (if (z_i σ (z_r σ r0 8) x6.toNatClampNeg) < (z_i σ (z_r σ r0 8) x7.toNatClampNeg) then
      z_w d_Ga_bestSeats cl 138 [some (vr r0), none, none, some (vi x3), some (vi x4), some (vi x5), some (vi x7), some (vi (x7 + (1 : Int32)))] [] σ
    else
      z_w d_Ga_bestSeats cl 138 [some (vr r0), none, none, some (vi x3), some (vi x4), some (vi x5), some (vi x6), some (vi (x7 + (1 : Int32)))] [] σ))))
  else
    if x3 = (-1 : Int32) then
      z_g (z_kd σ r0 == 3) (z_g (z_at σ (z_r σ r0 8) 20 x6) (some (vi (z_i σ (z_r σ r0 8) x6.toNatClampNeg), σ)))
    else
      z_g (z_kd σ r0 == 3) (z_g (z_kd σ r0 == 3) (z_bI (cl 244 [vr r0, vi x6, vi x4, vi x5] σ) (fun v2 σ1 =>
      z_g (z_at σ1 (z_r σ r0 5) 20 v2) (some (vi (z_i σ1 (z_r σ r0 5) v2.toNatClampNeg), σ1))))) := (z_w_eq _ _ _ _ _ _).trans rfl
set_option maxRecDepth 100000 in
theorem e_B_seated (d : Nat) (r0 : Nat) (x1 : Int32) (x2 : Int32) (x3 : Int32) (σ : ZM) : z_call (d + 1) 246 [vr r0, vi x1, vi x2, vi x3] σ =
  z_g (z_kd σ r0 == 11) (z_g (z_kd σ (z_r σ r0 14) == 3) (z_bI (z_call d 245 [vr (z_r σ r0 14), vi x1, vi x2, vi x3] σ) (fun v2 σ1 =>
  some (vi v2, σ1)))) := (z_w_eq _ _ _ _ _ _).trans rfl
set_option maxRecDepth 100000 in
theorem e_M_bits (d : Nat) (x0 : Int32) (σ : ZM) : z_call (d + 1) 247 [vi x0] σ =
  z_w d_M_bits (z_call d) 4 [some (vi x0), some (vi (0 : Int32)), some (vi (0 : Int32))] [] σ := (z_w_eq _ _ _ _ _ _).trans rfl
set_option maxRecDepth 100000 in
theorem e_M_bits_4 (cl : Nat → List ZV → ZM → ZR) (x0 : Int32) (x1 : Int32) (x2 : Int32) (σ : ZM) : z_w d_M_bits cl 4 [some (vi x0), some (vi x1), some (vi x2)] [] σ =
  if x2 < (12 : Int32) then
    z_x (x1 + ((x0 >>> (x2 &&& 31)) &&& (1 : Int32))) (fun u1 => z_w d_M_bits cl 4 [some (vi x0), some (vi u1), some (vi (x2 + (1 : Int32)))] [] σ)
  else
    some (vi x1, σ) := (z_w_eq _ _ _ _ _ _).trans rfl
set_option maxRecDepth 100000 in
theorem e_M_isSome (d : Nat) (r0 : Nat) (x1 : Int32) (σ : ZM) : z_call (d + 1) 248 [vr r0, vi x1] σ =
  z_g (z_kd σ r0 == 12) (z_g (z_at σ (z_r σ r0 0) 20 (1 : Int32)) (z_bI (z_call d 19 [vi x1, vi (1 : Int32), vi (((1 : Int32) <<< ((z_i σ (z_r σ r0 0) (1 : Int32).toNatClampNeg) &&& 31)) - (1 : Int32))] σ) (fun v2 σ1 =>
  if v2 = 0 then
    some (vi (0 : Int32), σ1)
  else
    z_bI (z_call d 247 [vi x1] σ1) (fun v4 σ3 =>
    if (5 : Int32) < v4 then
      some (vi (0 : Int32), σ3)
    else
      some (vi (1 : Int32), σ3))))) := (z_w_eq _ _ _ _ _ _).trans rfl
set_option maxRecDepth 100000 in
theorem e_M_layOut (d : Nat) (x0 : Int32) (r1 : Nat) (σ : ZM) : z_call (d + 1) 249 [vi x0, vr r1] σ =
  z_w d_M_layOut (z_call d) 4 [some (vi x0), some (vr r1), some (vi (0 : Int32)), some (vi (0 : Int32))] [] σ := (z_w_eq _ _ _ _ _ _).trans rfl
set_option maxRecDepth 100000 in
theorem e_M_layOut_4 (cl : Nat → List ZV → ZM → ZR) (x0 : Int32) (r1 : Nat) (x2 : Int32) (x3 : Int32) (σ : ZM) : z_w d_M_layOut cl 4 [some (vi x0), some (vr r1), some (vi x2), some (vi x3)] [] σ =
  if x3 < (10 : Int32) then
    z_bI (cl 88 [vi x0, vi x3] σ) (fun v2 σ1 =>
    if v2 = 0 then
      z_w d_M_layOut cl 4 [some (vi x0), some (vr r1), some (vi x2), some (vi (x3 + (1 : Int32)))] [] σ1
    else
      z_g (z_at σ1 r1 20 x2 && Nat.ble 10 r1) (z_x (z_ui σ1 r1 x2.toNatClampNeg x3) (fun σ3 =>
      z_x (x2 + (1 : Int32)) (fun u4 => z_w d_M_layOut cl 4 [some (vi x0), some (vr r1), some (vi u4), some (vi (x3 + (1 : Int32)))] [] σ3))))
  else
    some (vi x2, σ) := (z_w_eq _ _ _ _ _ _).trans rfl
set_option maxRecDepth 100000 in
theorem e_M_manyHold (d : Nat) (r0 : Nat) (x1 : Int32) (σ : ZM) : z_call (d + 1) 250 [vr r0, vi x1] σ =
  z_w d_M_manyHold (z_call d) 4 [some (vr r0), some (vi x1), some (vi (0 : Int32)), some (vi (0 : Int32))] [] σ := (z_w_eq _ _ _ _ _ _).trans rfl
set_option maxRecDepth 100000 in
theorem e_M_manyHold_4 (cl : Nat → List ZV → ZM → ZR) (r0 : Nat) (x1 : Int32) (x2 : Int32) (x3 : Int32) (σ : ZM) : z_w d_M_manyHold cl 4 [some (vr r0), some (vi x1), some (vi x2), some (vi x3)] [] σ =
  z_g (z_kd σ r0 == 12) (z_g (z_at σ (z_r σ r0 0) 20 (2 : Int32)) (if x3 < (z_i σ (z_r σ r0 0) (2 : Int32).toNatClampNeg) then
    z_g (z_kd σ r0 == 12) (z_bI (cl 208 [vr r0, vi x3, vi x1] σ) (fun v2 σ1 =>
    if v2 = 0 then
      z_x (x2 + (0 : Int32)) (fun u3 => z_w d_M_manyHold cl 4 [some (vr r0), some (vi x1), some (vi u3), some (vi (x3 + (1 : Int32)))] [] σ1)
    else
      z_x (x2 + (1 : Int32)) (fun u4 => z_w d_M_manyHold cl 4 [some (vr r0), some (vi x1), some (vi u4), some (vi (x3 + (1 : Int32)))] [] σ1)))
  else
    some (vi x2, σ))) := (z_w_eq _ _ _ _ _ _).trans rfl
set_option maxRecDepth 100000 in
theorem e_M_nextOrder (d : Nat) (r0 : Nat) (σ : ZM) : z_call (d + 1) 251 [vr r0] σ =
  z_g (z_kd σ r0 == 12) (z_x ((z_i σ r0 31) - (2 : Int32)) (fun u1 => z_w d_M_nextOrder (z_call d) 7 [some (vr r0), some (vi u1), none, none, none, none] [] σ)) := (z_w_eq _ _ _ _ _ _).trans rfl
set_option maxRecDepth 100000 in
theorem e_M_nextOrder_7 (cl : Nat → List ZV → ZM → ZR) (r0 : Nat) (x1 : Int32) (σ : ZM) : z_w d_M_nextOrder cl 7 [some (vr r0), some (vi x1), none, none, none, none] [] σ =
  if x1 < 0 then
    if x1 < 0 then
      some (vi (0 : Int32), σ)
    else
      z_g (z_kd σ r0 == 12) (z_x ((z_i σ r0 31) - (1 : Int32)) (fun u1 => z_w d_M_nextOrder cl 47 [some (vr r0), some (vi x1), some (vi u1), none, none, none] [] σ))
  else
    z_g (z_kd σ r0 == 12) (z_g (z_at σ (z_r σ r0 28) 20 x1) (z_g (z_kd σ r0 == 12) (z_g (z_at σ (z_r σ r0 28) 20 (x1 + (1 : Int32))) (if (z_i σ (z_r σ r0 28) (x1 + (1 : Int32)).toNatClampNeg) < (z_i σ (z_r σ r0 28) x1.toNatClampNeg) then
      z_w d_M_nextOrder cl 7 [some (vr r0), some (vi (x1 + (-1 : Int32))), none, none, none, none] [] σ
    else
      if x1 < 0 then
        some (vi (0 : Int32), σ)
      else
        z_g (z_kd σ r0 == 12) (z_x ((z_i σ r0 31) - (1 : Int32)) (fun u2 => z_w d_M_nextOrder cl 47 [some (vr r0), some (vi x1), some (vi u2), none, none, none] [] σ)))))) := (z_w_eq _ _ _ _ _ _).trans rfl
set_option maxRecDepth 100000 in
theorem e_M_nextOrder_47 (cl : Nat → List ZV → ZM → ZR) (r0 : Nat) (x1 : Int32) (x2 : Int32) (σ : ZM) : z_w d_M_nextOrder cl 47 [some (vr r0), some (vi x1), some (vi x2), none, none, none] [] σ =
  z_g (z_kd σ r0 == 12) (z_g (z_at σ (z_r σ r0 28) 20 x2) (z_g (z_kd σ r0 == 12) (z_g (z_at σ (z_r σ r0 28) 20 x1) (if (z_i σ (z_r σ r0 28) x2.toNatClampNeg) < (z_i σ (z_r σ r0 28) x1.toNatClampNeg) then
    z_w d_M_nextOrder cl 47 [some (vr r0), some (vi x1), some (vi (x2 + (-1 : Int32))), none, none, none] [] σ
  else
    z_g (z_kd σ r0 == 12) (z_g (z_at σ (z_r σ r0 28) 20 x1) (z_x (z_i σ (z_r σ r0 28) x1.toNatClampNeg) (fun u1 => z_g (z_kd σ r0 == 12) (z_g (z_kd σ r0 == 12) (z_g (z_at σ (z_r σ r0 28) 20 x2) (z_g (z_at σ (z_r σ r0 28) 20 x1 && Nat.ble 10 (z_r σ r0 28)) (z_x (z_ui σ (z_r σ r0 28) x1.toNatClampNeg (z_i σ (z_r σ r0 28) x2.toNatClampNeg)) (fun σ2 =>
    z_g (z_kd σ2 r0 == 12) (z_g (z_at σ2 (z_r σ2 r0 28) 20 x2 && Nat.ble 10 (z_r σ2 r0 28)) (z_x (z_ui σ2 (z_r σ2 r0 28) x2.toNatClampNeg u1) (fun σ3 =>
    z_x (x1 + (1 : Int32)) (fun u4 => z_g (z_kd σ3 r0 == 12) (z_x ((z_i σ3 r0 31) - (1 : Int32)) (fun u5 => z_w d_M_nextOrder cl 107 [some (vr r0), none, none, none, some (vi u4), some (vi u5)] [] σ3)))))))))))))))))) := (z_w_eq _ _ _ _ _ _).trans rfl
set_option maxRecDepth 100000 in
theorem e_M_nextOrder_107 (cl : Nat → List ZV → ZM → ZR) (r0 : Nat) (x4 : Int32) (x5 : Int32) (σ : ZM) : z_w d_M_nextOrder cl 107 [some (vr r0), none, none, none, some (vi x4), some (vi x5)] [] σ =
  if x4 < x5 then
    z_g (z_kd σ r0 == 12) (z_g (z_at σ (z_r σ r0 28) 20 x4) (z_x (z_i σ (z_r σ r0 28) x4.toNatClampNeg) (fun u1 => z_g (z_kd σ r0 == 12) (z_g (z_kd σ r0 == 12) (z_g (z_at σ (z_r σ r0 28) 20 x5) (z_g (z_at σ (z_r σ r0 28) 20 x4 && Nat.ble 10 (z_r σ r0 28)) (z_x (z_ui σ (z_r σ r0 28) x4.toNatClampNeg (z_i σ (z_r σ r0 28) x5.toNatClampNeg)) (fun σ2 =>
    z_g (z_kd σ2 r0 == 12) (z_g (z_at σ2 (z_r σ2 r0 28) 20 x5 && Nat.ble 10 (z_r σ2 r0 28)) (z_x (z_ui σ2 (z_r σ2 r0 28) x5.toNatClampNeg u1) (fun σ3 =>
    z_x (x4 + (1 : Int32)) (fun u4 => z_w d_M_nextOrder cl 107 [some (vr r0), none, none, none, some (vi u4), some (vi (x5 + (-1 : Int32)))] [] σ3))))))))))))
  else
    some (vi (1 : Int32), σ) := (z_w_eq _ _ _ _ _ _).trans rfl
set_option maxRecDepth 100000 in
theorem e_M_bestSeats (d : Nat) (r0 : Nat) (x1 : Int32) (σ : ZM) : z_call (d + 1) 252 [vr r0, vi x1] σ =
  z_w d_M_bestSeats (z_call d) 4 [some (vr r0), some (vi x1), some (vi (-1 : Int32)), some (vi (0 : Int32)), none, none] [] σ := (z_w_eq _ _ _ _ _ _).trans rfl
set_option maxRecDepth 100000 in
theorem e_M_bestSeats_4 (cl : Nat → List ZV → ZM → ZR) (r0 : Nat) (x1 : Int32) (x2 : Int32) (x3 : Int32) (σ : ZM) : z_w d_M_bestSeats cl 4 [some (vr r0), some (vi x1), some (vi x2), some (vi x3), none, none] [] σ =
  z_g (z_kd σ r0 == 12) (z_g (z_at σ (z_r σ r0 0) 20 (1 : Int32)) (if x3 < (z_i σ (z_r σ r0 0) (1 : Int32).toNatClampNeg) then
    z_g (z_kd σ r0 == 12) (z_g (z_kd σ r0 == 12) (z_bI (cl 126 [vr r0, vi x3, vi (3 : Int32)] σ) (fun v2 σ1 =>
    z_g (z_at σ1 (z_r σ r0 30) 20 x3 && Nat.ble 10 (z_r σ r0 30)) (z_x (z_ui σ1 (z_r σ r0 30) x3.toNatClampNeg v2) (fun σ3 =>
    z_g (z_kd σ3 r0 == 12) (z_g (z_at σ3 (z_r σ3 r0 30) 20 x3) (if (z_i σ3 (z_r σ3 r0 30) x3.toNatClampNeg) = (-1 : Int32) then
      z_w d_M_bestSeats cl 4 [some (vr r0), some (vi x1), some (vi x2), some (vi (x3 + (1 : Int32))), none, none] [] σ3
    else
      z_g (z_kd σ3 r0 == 12) (z_g (z_at σ3 (z_r σ3 r0 30) 20 x3) (z_bI (cl 88 [vi x1, vi (z_i σ3 (z_r σ3 r0 30) x3.toNatClampNeg)] σ3) (fun v5 σ4 =>
      if v5 = 0 then
        z_w d_M_bestSeats cl 4 [some (vr r0), some (vi x1), some (vi x2), some (vi (x3 + (1 : Int32))), none, none] [] σ4
      else
        z_g (z_kd σ4 r0 == 12) (z_bV (cl 23 [vr r0, vi x3, vi (3 : Int32), vi (-1 : Int32)] σ4) (fun σ6 =>
        z_w d_M_bestSeats cl 4 [some (vr r0), some (vi x1), some (vi x2), some (vi (x3 + (1 : Int32))), none, none] [] σ6))))))))))))
  else
    z_w d_M_bestSeats cl 64 [some (vr r0), none, some (vi x2), some (vi (1 : Int32)), none, none] [] σ)) := (z_w_eq _ _ _ _ _ _).trans rfl
set_option maxRecDepth 100000 in
theorem e_M_bestSeats_64 (cl : Nat → List ZV → ZM → ZR) (r0 : Nat) (x2 : Int32) (x3 : Int32) (σ : ZM) : z_w d_M_bestSeats cl 64 [some (vr r0), none, some (vi x2), some (vi x3), none, none] [] σ =
  if x3 = 0 then
    z_w d_M_bestSeats cl 184 [some (vr r0), none, some (vi x2), none, some (vi (0 : Int32)), none] [] σ
  else
    z_w d_M_bestSeats cl 71 [some (vr r0), none, some (vi x2), none, some (vi (0 : Int32)), none] [] σ := (z_w_eq _ _ _ _ _ _).trans rfl
set_option maxRecDepth 100000 in
theorem e_M_bestSeats_71 (cl : Nat → List ZV → ZM → ZR) (r0 : Nat) (x2 : Int32) (x4 : Int32) (σ : ZM) : z_w d_M_bestSeats cl 71 [some (vr r0), none, some (vi x2), none, some (vi x4), none] [] σ =
  z_g (z_kd σ r0 == 12) (if x4 < (z_i σ r0 31) then
    z_g (z_kd σ r0 == 12) (z_g (z_at σ (z_r σ r0 26) 20 x4) (z_g (z_kd σ r0 == 12) (z_g (z_kd σ r0 == 12) (z_g (z_at σ (z_r σ r0 28) 20 x4) (z_g (z_at σ (z_r σ r0 27) 20 (z_i σ (z_r σ r0 28) x4.toNatClampNeg)) (z_g (z_kd σ r0 == 12) (z_bV (cl 23 [vr r0, vi (z_i σ (z_r σ r0 26) x4.toNatClampNeg), vi (3 : Int32), vi (z_i σ (z_r σ r0 27) (z_i σ (z_r σ r0 28) x4.toNatClampNeg).toNatClampNeg)] σ) (fun σ3 =>
    z_w d_M_bestSeats cl 71 [some (vr r0), none, some (vi x2), none, some (vi (x4 + (1 : Int32))), none] [] σ3))))))))
  else
    z_g (z_kd σ r0 == 12) (z_bI (cl 250 [vr r0, vi (0 : Int32)] σ) (fun v2 σ1 =>
    z_w d_M_bestSeats cl 120 [some (vr r0), none, some (vi x2), none, some (vi v2), some (vi (0 : Int32))] [] σ1))) := (z_w_eq _ _ _ _ _ _).trans rfl
set_option maxRecDepth 100000 in
theorem e_M_bestSeats_120 (cl : Nat → List ZV → ZM → ZR) (r0 : Nat) (x2 : Int32) (x4 : Int32) (x5 : Int32) (σ : ZM) : z_w d_M_bestSeats cl 120 [some (vr r0), none, some (vi x2), none, some (vi x4), some (vi x5)] [] σ =
  z_g (z_kd σ r0 == 12) (if x5 < (z_i σ r0 31) then
    if x2 < x4 then
      z_g (z_kd σ r0 == 12) (z_g (z_kd σ r0 == 12) (z_g (z_kd σ r0 == 12) (z_g (z_at σ (z_r σ r0 28) 20 x5) (z_g (z_at σ (z_r σ r0 27) 20 (z_i σ (z_r σ r0 28) x5.toNatClampNeg)) (z_g (z_at σ (z_r σ r0 29) 20 x5 && Nat.ble 10 (z_r σ r0 29)) (z_x (z_ui σ (z_r σ r0 29) x5.toNatClampNeg (z_i σ (z_r σ r0 27) (z_i σ (z_r σ r0 28) x5.toNatClampNeg).toNatClampNeg)) (fun σ9 =>
      z_w d_M_bestSeats cl 120 [some (vr r0), none, some (vi x2), none, some (vi x4), some (vi (x5 + (1 : Int32)))] [] σ9)))))))
    else
      if x2 < x4 then
        z_g (z_kd σ r0 == 12) (z_bI (cl 251 [vr r0] σ) (fun v8 σ7 =>
        z_w d_M_bestSeats cl 64 [some (vr r0), none, some (vi x4), some (vi v8), none, none] [] σ7))
      else
        z_g (z_kd σ r0 == 12) (z_bI (cl 251 [vr r0] σ) (fun v6 σ5 =>
        z_w d_M_bestSeats cl 64 [some (vr r0), none, some (vi x2), some (vi v6), none, none] [] σ5))
  else
    if x2 < x4 then
      z_g (z_kd σ r0 == 12) (z_bI (cl 251 [vr r0] σ) (fun v4 σ3 =>
      z_w d_M_bestSeats cl 64 [some (vr r0), none, some (vi x4), some (vi v4), none, none] [] σ3))
    else
      z_g (z_kd σ r0 == 12) (z_bI (cl 251 [vr r0] σ) (fun v2 σ1 =>
      z_w d_M_bestSeats cl 64 [some (vr r0), none, some (vi x2), some (vi v2), none, none] [] σ1))) := (z_w_eq _ _ _ _ _ _).trans rfl
set_option maxRecDepth 100000 in
theorem e_M_bestSeats_184 (cl : Nat → List ZV → ZM → ZR) (r0 : Nat) (x2 : Int32) (x4 : Int32) (σ : ZM) : z_w d_M_bestSeats cl 184 [some (vr r0), none, some (vi x2), none, some (vi x4), none] [] σ =
  z_g (z_kd σ r0 == 12) (z_g (z_at σ (z_r σ r0 0) 20 (1 : Int32)) (if x4 < (z_i σ (z_r σ r0 0) (1 : Int32).toNatClampNeg) then
    z_g (z_kd σ r0 == 12) (z_g (z_at σ (z_r σ r0 30) 20 x4) (z_g (z_kd σ r0 == 12) (z_bV (cl 23 [vr r0, vi x4, vi (3 : Int32), vi (z_i σ (z_r σ r0 30) x4.toNatClampNeg)] σ) (fun σ1 =>
    z_w d_M_bestSeats cl 184 [some (vr r0), none, some (vi x2), none, some (vi (x4 + (1 : Int32))), none] [] σ1))))
  else
    some (vi x2, σ))) := (z_w_eq _ _ _ _ _ _).trans rfl
set_option maxRecDepth 100000 in
theorem e_M_seated (d : Nat) (r0 : Nat) (x1 : Int32) (x2 : Int32) (x3 : Int32) (σ : ZM) : z_call (d + 1) 253 [vr r0, vi x1, vi x2, vi x3] σ =
  z_g (z_kd σ r0 == 12) (z_bI (z_call d 248 [vr r0, vi x1] σ) (fun v2 σ1 =>
  if v2 = 0 then
    some (vi (-1 : Int32), σ1)
  else
    z_g (z_kd σ1 r0 == 12) (z_g (z_at σ1 (z_r σ1 r0 0) 20 (0 : Int32)) (z_bI (z_call d 19 [vi x2, vi (1 : Int32), vi (((1 : Int32) <<< ((z_i σ1 (z_r σ1 r0 0) (0 : Int32).toNatClampNeg) &&& 31)) - (1 : Int32))] σ1) (fun v4 σ3 =>
    if v4 = 0 then
      some (vi (-1 : Int32), σ3)
    else
      z_bI (z_call d 247 [vi x2] σ3) (fun v6 σ5 =>
      z_bI (z_call d 247 [vi x1] σ5) (fun v8 σ7 =>
      if v6 = v8 then
        if x3 = (-1 : Int32) then
          z_g (z_kd σ7 r0 == 12) (z_bI (z_call d 249 [vi x1, vr (z_r σ7 r0 26)] σ7) (fun v10 σ9 =>
          z_g (z_kd σ9 r0 == 12) (z_x (z_ui σ9 r0 31 v10) (fun σ11 =>
          z_g (z_kd σ11 r0 == 12) (z_bI (z_call d 249 [vi x2, vr (z_r σ11 r0 27)] σ11) (fun v13 σ12 =>
          z_w d_M_seated (z_call d) 86 [some (vr r0), none, some (vi x2), some (vi x3), some (vi (0 : Int32)), none] [] σ12))))))
        else
          z_g (z_kd σ7 r0 == 12) (z_bI (z_call d 125 [vr r0, vi x3] σ7) (fun v15 σ14 =>
          if v15 = 0 then
            some (vi (-1 : Int32), σ14)
          else
            z_bI (z_call d 88 [vi x1, vi x3] σ14) (fun v17 σ16 =>
            if v17 = 0 then
              some (vi (-1 : Int32), σ16)
            else
              z_g (z_kd σ16 r0 == 12) (z_bI (z_call d 249 [vi x1, vr (z_r σ16 r0 26)] σ16) (fun v19 σ18 =>
              z_g (z_kd σ18 r0 == 12) (z_x (z_ui σ18 r0 31 v19) (fun σ20 =>
              z_g (z_kd σ20 r0 == 12) (z_bI (z_call d 249 [vi x2, vr (z_r σ20 r0 27)] σ20) (fun v22 σ21 =>
              z_w d_M_seated (z_call d) 86 [some (vr r0), none, some (vi x2), some (vi x3), some (vi (0 : Int32)), none] [] σ21)))))))))
      else
        some (vi (-1 : Int32), σ7)))))))) := (z_w_eq _ _ _ _ _ _).trans rfl

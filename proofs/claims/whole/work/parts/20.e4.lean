/-! the methods as equations, printed by program (gen/emit.py); each holds by reduction -/
set_option maxRecDepth 100000 in
theorem e_L_law_1464 (cl : Nat → List ZV → ZM → ZR) (r0 : Nat) (r1 : Nat) (r2 : Nat) (x3 : Int32) (σ : ZM) : z_w d_L_law cl 1464 [some (vr r0), some (vr r1), some (vr r2), some (vi x3)] [] σ =
  z_g (z_at σ r0 20 (x3 + (1 : Int32))) (z_g (z_kd σ r1 == 11) (z_bI (cl 324 [vr r1, vi (z_i σ r0 (x3 + (1 : Int32)).toNatClampNeg)] σ) (fun v2 σ1 =>
  z_g (z_at σ1 r0 20 (x3 + (1 : Int32))) (z_g (z_kd σ1 r2 == 12) (z_bI (cl 325 [vr r2, vi (z_i σ1 r0 (x3 + (1 : Int32)).toNatClampNeg)] σ1) (fun v4 σ3 =>
  if v2 = v4 then
    z_w d_L_law cl 1487 [some (vr r0), some (vr r1), some (vr r2), some (vi x3)] [] σ3
  else
    some (vi (0 : Int32), σ3))))))) := (z_w_eq _ _ _ _ _ _).trans rfl
set_option maxRecDepth 100000 in
theorem e_L_law_1487 (cl : Nat → List ZV → ZM → ZR) (r0 : Nat) (r1 : Nat) (r2 : Nat) (x3 : Int32) (σ : ZM) : z_w d_L_law cl 1487 [some (vr r0), some (vr r1), some (vr r2), some (vi x3)] [] σ =
  z_w d_L_law cl 18 [some (vr r0), some (vr r1), some (vr r2), some (vi (x3 + (6 : Int32)))] [] σ := (z_w_eq _ _ _ _ _ _).trans rfl

/-! a row of the walk for each instruction -/
def z_C (p : Program) (s : State) (m : MethodId) (args : Array Value) (c : Code) (cc : ByteArray) (own : String) (nL : Nat) (D : va_G) (cA : Nat → ClassId) (O : ZM) (A : Nat → Value) (base n0 : Nat) : Prop :=
  CallFix p m c cc nL s args z_tb own ∧ z_fix D cA O A base s s.heap ∧ (∀ r, A r = .null ∨ ∃ a, A r = .ref a) ∧ ((∀ r, r = 0 → A r = .null) ∧ ∀ r, A r = .null → r = 0 ∨ r = 9) ∧ (∀ r, 10 ≤ r → A r = .ref (base + (r - 10))) ∧ s.heap.size = base + (n0 - 10) ∧ 10 ≤ n0 ∧ z_pO O
def z_W (p : Program) (l : Launch) (e : Env) (R : Room) (s : State) (m : MethodId) (args : Array Value) (below : List Frame) (meth : Method) (c : Code) (Q : State → Prop) (D : va_G) (cA : Nat → ClassId) (O : ZM) (A : Nat → Value) (base n0 w0 nL pc : Nat) (L : ZL) (S : List ZV) (σ : ZM) : Prop :=
  ∀ (H : Heap) (locs : List Loc) (ls : Array Slot), va_P D vwCl (z_ws cA A base σ) H → z_pu O σ → va_S (z_B base) s.heap H locs → z_lv A ls nL L → n0 ≤ z_sz σ → w0 ≤ z_sw σ → W p l e R s m args below meth c H locs (z_sz σ - n0) (z_sw σ - w0) Q (F0 m pc ls (S.map (z_cv A)))
section ZROWS
variable {p : Program} {l : Launch} {e : Env} {R : Room} {s : State} {m : MethodId} {args : Array Value} {below : List Frame} {meth : Method} {c : Code} {Q : State → Prop} {cc : ByteArray} {own : String} {nL : Nat} {D : va_G} {cA : Nat → ClassId} {O : ZM} {A : Nat → Value} {base n0 w0 : Nat} {pc : Nat} {L : ZL} {S : List ZV} {σ : ZM}
theorem z_s_iconst (X : z_C p s m args c cc own nL D cA O A base n0) {n : Int} (hd : decode cc pc = .ok (.iconst n, 1)) (w : z_W p l e R s m args below meth c Q D cA O A base n0 w0 nL (pc + 1) L (vi (Int32.ofInt n) :: S) σ) : z_W p l e R s m args below meth c Q D cA O A base n0 w0 nL pc L (S) σ := by
  intro H locs ls hP hu hS hl hn hw
  exact lv_iconst X.1.1 X.1.2.1 hd rfl (w H locs ls hP hu hS hl hn hw)
theorem z_s_lconst (X : z_C p s m args c cc own nL D cA O A base n0) {n : Fin 2} (hd : decode cc pc = .ok (.lconst n, 1)) (w : z_W p l e R s m args below meth c Q D cA O A base n0 w0 nL (pc + 1) L (vl (Int64.ofNat n.val) :: S) σ) : z_W p l e R s m args below meth c Q D cA O A base n0 w0 nL pc L (S) σ := by
  intro H locs ls hP hu hS hl hn hw
  exact lv_lconst X.1.1 X.1.2.1 hd rfl (w H locs ls hP hu hS hl hn hw)
theorem z_s_bipush (X : z_C p s m args c cc own nL D cA O A base n0) {n : Int} (hd : decode cc pc = .ok (.bipush n, 2)) (w : z_W p l e R s m args below meth c Q D cA O A base n0 w0 nL (pc + 2) L (vi (Int8.ofInt n).toInt32 :: S) σ) : z_W p l e R s m args below meth c Q D cA O A base n0 w0 nL pc L (S) σ := by
  intro H locs ls hP hu hS hl hn hw
  exact lv_bipush X.1.1 X.1.2.1 hd rfl (w H locs ls hP hu hS hl hn hw)
theorem z_s_sipush (X : z_C p s m args c cc own nL D cA O A base n0) {n : Int} (hd : decode cc pc = .ok (.sipush n, 3)) (w : z_W p l e R s m args below meth c Q D cA O A base n0 w0 nL (pc + 3) L (vi (Int16.ofInt n).toInt32 :: S) σ) : z_W p l e R s m args below meth c Q D cA O A base n0 w0 nL pc L (S) σ := by
  intro H locs ls hP hu hS hl hn hw
  exact lv_sipush X.1.1 X.1.2.1 hd rfl (w H locs ls hP hu hS hl hn hw)
theorem z_s_iadd (X : z_C p s m args c cc own nL D cA O A base n0) {x y : Int32} (hd : decode cc pc = .ok (.iadd, 1)) (w : z_W p l e R s m args below meth c Q D cA O A base n0 w0 nL (pc + 1) L (vi (x + y) :: S) σ) : z_W p l e R s m args below meth c Q D cA O A base n0 w0 nL pc L (vi y :: vi x :: S) σ := by
  intro H locs ls hP hu hS hl hn hw
  exact lv_iadd X.1.1 X.1.2.1 hd (w H locs ls hP hu hS hl hn hw)
theorem z_s_isub (X : z_C p s m args c cc own nL D cA O A base n0) {x y : Int32} (hd : decode cc pc = .ok (.isub, 1)) (w : z_W p l e R s m args below meth c Q D cA O A base n0 w0 nL (pc + 1) L (vi (x - y) :: S) σ) : z_W p l e R s m args below meth c Q D cA O A base n0 w0 nL pc L (vi y :: vi x :: S) σ := by
  intro H locs ls hP hu hS hl hn hw
  exact lv_isub X.1.1 X.1.2.1 hd (w H locs ls hP hu hS hl hn hw)
theorem z_s_imul (X : z_C p s m args c cc own nL D cA O A base n0) {x y : Int32} (hd : decode cc pc = .ok (.imul, 1)) (w : z_W p l e R s m args below meth c Q D cA O A base n0 w0 nL (pc + 1) L (vi (x * y) :: S) σ) : z_W p l e R s m args below meth c Q D cA O A base n0 w0 nL pc L (vi y :: vi x :: S) σ := by
  intro H locs ls hP hu hS hl hn hw
  exact lv_imul X.1.1 X.1.2.1 hd (w H locs ls hP hu hS hl hn hw)
theorem z_s_iand (X : z_C p s m args c cc own nL D cA O A base n0) {x y : Int32} (hd : decode cc pc = .ok (.iand, 1)) (w : z_W p l e R s m args below meth c Q D cA O A base n0 w0 nL (pc + 1) L (vi (x &&& y) :: S) σ) : z_W p l e R s m args below meth c Q D cA O A base n0 w0 nL pc L (vi y :: vi x :: S) σ := by
  intro H locs ls hP hu hS hl hn hw
  exact lv_iand X.1.1 X.1.2.1 hd (w H locs ls hP hu hS hl hn hw)
theorem z_s_ior (X : z_C p s m args c cc own nL D cA O A base n0) {x y : Int32} (hd : decode cc pc = .ok (.ior, 1)) (w : z_W p l e R s m args below meth c Q D cA O A base n0 w0 nL (pc + 1) L (vi (x ||| y) :: S) σ) : z_W p l e R s m args below meth c Q D cA O A base n0 w0 nL pc L (vi y :: vi x :: S) σ := by
  intro H locs ls hP hu hS hl hn hw
  exact lv_ior X.1.1 X.1.2.1 hd (w H locs ls hP hu hS hl hn hw)
theorem z_s_ixor (X : z_C p s m args c cc own nL D cA O A base n0) {x y : Int32} (hd : decode cc pc = .ok (.ixor, 1)) (w : z_W p l e R s m args below meth c Q D cA O A base n0 w0 nL (pc + 1) L (vi (x ^^^ y) :: S) σ) : z_W p l e R s m args below meth c Q D cA O A base n0 w0 nL pc L (vi y :: vi x :: S) σ := by
  intro H locs ls hP hu hS hl hn hw
  exact lv_ixor X.1.1 X.1.2.1 hd (w H locs ls hP hu hS hl hn hw)
theorem z_s_ishl (X : z_C p s m args c cc own nL D cA O A base n0) {x y : Int32} (hd : decode cc pc = .ok (.ishl, 1)) (w : z_W p l e R s m args below meth c Q D cA O A base n0 w0 nL (pc + 1) L (vi (x <<< (y &&& 31)) :: S) σ) : z_W p l e R s m args below meth c Q D cA O A base n0 w0 nL pc L (vi y :: vi x :: S) σ := by
  intro H locs ls hP hu hS hl hn hw
  exact lv_ishl X.1.1 X.1.2.1 hd (w H locs ls hP hu hS hl hn hw)
theorem z_s_ishr (X : z_C p s m args c cc own nL D cA O A base n0) {x y : Int32} (hd : decode cc pc = .ok (.ishr, 1)) (w : z_W p l e R s m args below meth c Q D cA O A base n0 w0 nL (pc + 1) L (vi (x >>> (y &&& 31)) :: S) σ) : z_W p l e R s m args below meth c Q D cA O A base n0 w0 nL pc L (vi y :: vi x :: S) σ := by
  intro H locs ls hP hu hS hl hn hw
  exact lv_ishr X.1.1 X.1.2.1 hd (w H locs ls hP hu hS hl hn hw)
theorem z_s_iushr (X : z_C p s m args c cc own nL D cA O A base n0) {x y : Int32} (hd : decode cc pc = .ok (.iushr, 1)) (w : z_W p l e R s m args below meth c Q D cA O A base n0 w0 nL (pc + 1) L (vi (x.toUInt32 >>> (y.toUInt32 &&& Int32.toUInt32 31)).toInt32 :: S) σ) : z_W p l e R s m args below meth c Q D cA O A base n0 w0 nL pc L (vi y :: vi x :: S) σ := by
  intro H locs ls hP hu hS hl hn hw
  exact lv_iushr X.1.1 X.1.2.1 hd rfl (w H locs ls hP hu hS hl hn hw)
theorem z_s_idiv (X : z_C p s m args c cc own nL D cA O A base n0) {x y : Int32} (hy : ¬ y = 0) (hd : decode cc pc = .ok (.idiv, 1)) (w : z_W p l e R s m args below meth c Q D cA O A base n0 w0 nL (pc + 1) L (vi (x / y) :: S) σ) : z_W p l e R s m args below meth c Q D cA O A base n0 w0 nL pc L (vi y :: vi x :: S) σ := by
  intro H locs ls hP hu hS hl hn hw
  exact lv_idiv X.1.1 X.1.2.1 hd hy (w H locs ls hP hu hS hl hn hw)
theorem z_s_irem (X : z_C p s m args c cc own nL D cA O A base n0) {x y : Int32} (hy : ¬ y = 0) (hd : decode cc pc = .ok (.irem, 1)) (w : z_W p l e R s m args below meth c Q D cA O A base n0 w0 nL (pc + 1) L (vi (x - x / y * y) :: S) σ) : z_W p l e R s m args below meth c Q D cA O A base n0 w0 nL pc L (vi y :: vi x :: S) σ := by
  intro H locs ls hP hu hS hl hn hw
  exact lv_irem X.1.1 X.1.2.1 hd hy (w H locs ls hP hu hS hl hn hw)
theorem z_s_ineg (X : z_C p s m args c cc own nL D cA O A base n0) {x : Int32} (hd : decode cc pc = .ok (.ineg, 1)) (w : z_W p l e R s m args below meth c Q D cA O A base n0 w0 nL (pc + 1) L (vi (-x) :: S) σ) : z_W p l e R s m args below meth c Q D cA O A base n0 w0 nL pc L (vi x :: S) σ := by
  intro H locs ls hP hu hS hl hn hw
  exact lv_ineg X.1.1 X.1.2.1 hd (w H locs ls hP hu hS hl hn hw)
theorem z_s_ladd (X : z_C p s m args c cc own nL D cA O A base n0) {x y : Int64} (hd : decode cc pc = .ok (.ladd, 1)) (w : z_W p l e R s m args below meth c Q D cA O A base n0 w0 nL (pc + 1) L (vl (x + y) :: S) σ) : z_W p l e R s m args below meth c Q D cA O A base n0 w0 nL pc L (vl y :: vl x :: S) σ := by
  intro H locs ls hP hu hS hl hn hw
  exact lv_ladd X.1.1 X.1.2.1 hd (w H locs ls hP hu hS hl hn hw)
theorem z_s_lsub (X : z_C p s m args c cc own nL D cA O A base n0) {x y : Int64} (hd : decode cc pc = .ok (.lsub, 1)) (w : z_W p l e R s m args below meth c Q D cA O A base n0 w0 nL (pc + 1) L (vl (x - y) :: S) σ) : z_W p l e R s m args below meth c Q D cA O A base n0 w0 nL pc L (vl y :: vl x :: S) σ := by
  intro H locs ls hP hu hS hl hn hw
  exact lv_lsub X.1.1 X.1.2.1 hd (w H locs ls hP hu hS hl hn hw)
theorem z_s_lmul (X : z_C p s m args c cc own nL D cA O A base n0) {x y : Int64} (hd : decode cc pc = .ok (.lmul, 1)) (w : z_W p l e R s m args below meth c Q D cA O A base n0 w0 nL (pc + 1) L (vl (x * y) :: S) σ) : z_W p l e R s m args below meth c Q D cA O A base n0 w0 nL pc L (vl y :: vl x :: S) σ := by
  intro H locs ls hP hu hS hl hn hw
  exact lv_lmul X.1.1 X.1.2.1 hd (w H locs ls hP hu hS hl hn hw)
theorem z_s_lor (X : z_C p s m args c cc own nL D cA O A base n0) {x y : Int64} (hd : decode cc pc = .ok (.lor, 1)) (w : z_W p l e R s m args below meth c Q D cA O A base n0 w0 nL (pc + 1) L (vl (x ||| y) :: S) σ) : z_W p l e R s m args below meth c Q D cA O A base n0 w0 nL pc L (vl y :: vl x :: S) σ := by
  intro H locs ls hP hu hS hl hn hw
  exact lv_lor X.1.1 X.1.2.1 hd (w H locs ls hP hu hS hl hn hw)
theorem z_s_ldiv (X : z_C p s m args c cc own nL D cA O A base n0) {x y : Int64} (hy : ¬ y = 0) (hd : decode cc pc = .ok (.ldiv, 1)) (w : z_W p l e R s m args below meth c Q D cA O A base n0 w0 nL (pc + 1) L (vl (x / y) :: S) σ) : z_W p l e R s m args below meth c Q D cA O A base n0 w0 nL pc L (vl y :: vl x :: S) σ := by
  intro H locs ls hP hu hS hl hn hw
  exact lv_ldiv X.1.1 X.1.2.1 hd hy (w H locs ls hP hu hS hl hn hw)
theorem z_s_lrem (X : z_C p s m args c cc own nL D cA O A base n0) {x y : Int64} (hy : ¬ y = 0) (hd : decode cc pc = .ok (.lrem, 1)) (w : z_W p l e R s m args below meth c Q D cA O A base n0 w0 nL (pc + 1) L (vl (x - x / y * y) :: S) σ) : z_W p l e R s m args below meth c Q D cA O A base n0 w0 nL pc L (vl y :: vl x :: S) σ := by
  intro H locs ls hP hu hS hl hn hw
  exact lv_lrem X.1.1 X.1.2.1 hd hy (w H locs ls hP hu hS hl hn hw)
theorem z_s_lneg (X : z_C p s m args c cc own nL D cA O A base n0) {x : Int64} (hd : decode cc pc = .ok (.lneg, 1)) (w : z_W p l e R s m args below meth c Q D cA O A base n0 w0 nL (pc + 1) L (vl (-x) :: S) σ) : z_W p l e R s m args below meth c Q D cA O A base n0 w0 nL pc L (vl x :: S) σ := by
  intro H locs ls hP hu hS hl hn hw
  exact lv_lneg X.1.1 X.1.2.1 hd (w H locs ls hP hu hS hl hn hw)
theorem z_s_lshl (X : z_C p s m args c cc own nL D cA O A base n0) {x : Int64} {y : Int32} (hd : decode cc pc = .ok (.lshl, 1)) (w : z_W p l e R s m args below meth c Q D cA O A base n0 w0 nL (pc + 1) L (vl (x <<< (y.toInt64 &&& 63)) :: S) σ) : z_W p l e R s m args below meth c Q D cA O A base n0 w0 nL pc L (vi y :: vl x :: S) σ := by
  intro H locs ls hP hu hS hl hn hw
  exact lv_lshl X.1.1 X.1.2.1 hd rfl (w H locs ls hP hu hS hl hn hw)
theorem z_s_lshr (X : z_C p s m args c cc own nL D cA O A base n0) {x : Int64} {y : Int32} (hd : decode cc pc = .ok (.lshr, 1)) (w : z_W p l e R s m args below meth c Q D cA O A base n0 w0 nL (pc + 1) L (vl (x >>> (y.toInt64 &&& 63)) :: S) σ) : z_W p l e R s m args below meth c Q D cA O A base n0 w0 nL pc L (vi y :: vl x :: S) σ := by
  intro H locs ls hP hu hS hl hn hw
  exact lv_lshr X.1.1 X.1.2.1 hd rfl (w H locs ls hP hu hS hl hn hw)
theorem z_s_lcmp (X : z_C p s m args c cc own nL D cA O A base n0) {x y : Int64} (hd : decode cc pc = .ok (.lcmp, 1)) (w : z_W p l e R s m args below meth c Q D cA O A base n0 w0 nL (pc + 1) L (vi (lg_cmp x y) :: S) σ) : z_W p l e R s m args below meth c Q D cA O A base n0 w0 nL pc L (vl y :: vl x :: S) σ := by
  intro H locs ls hP hu hS hl hn hw
  exact W.lcmp X.1.1 X.1.2.1 hd (w H locs ls hP hu hS hl hn hw)
theorem z_s_i2l (X : z_C p s m args c cc own nL D cA O A base n0) {x : Int32} (hd : decode cc pc = .ok (.i2l, 1)) (w : z_W p l e R s m args below meth c Q D cA O A base n0 w0 nL (pc + 1) L (vl x.toInt64 :: S) σ) : z_W p l e R s m args below meth c Q D cA O A base n0 w0 nL pc L (vi x :: S) σ := by
  intro H locs ls hP hu hS hl hn hw
  exact lv_i2l X.1.1 X.1.2.1 hd rfl (w H locs ls hP hu hS hl hn hw)
theorem z_s_l2i (X : z_C p s m args c cc own nL D cA O A base n0) {x : Int64} (hd : decode cc pc = .ok (.l2i, 1)) (w : z_W p l e R s m args below meth c Q D cA O A base n0 w0 nL (pc + 1) L (vi x.toInt32 :: S) σ) : z_W p l e R s m args below meth c Q D cA O A base n0 w0 nL pc L (vl x :: S) σ := by
  intro H locs ls hP hu hS hl hn hw
  exact lv_l2i X.1.1 X.1.2.1 hd rfl (w H locs ls hP hu hS hl hn hw)
theorem z_s_i2b (X : z_C p s m args c cc own nL D cA O A base n0) {x : Int32} (hd : decode cc pc = .ok (.i2b, 1)) (w : z_W p l e R s m args below meth c Q D cA O A base n0 w0 nL (pc + 1) L (vi x.toInt8.toInt32 :: S) σ) : z_W p l e R s m args below meth c Q D cA O A base n0 w0 nL pc L (vi x :: S) σ := by
  intro H locs ls hP hu hS hl hn hw
  exact lv_i2b X.1.1 X.1.2.1 hd rfl (w H locs ls hP hu hS hl hn hw)
theorem z_s_i2c (X : z_C p s m args c cc own nL D cA O A base n0) {x : Int32} (hd : decode cc pc = .ok (.i2c, 1)) (w : z_W p l e R s m args below meth c Q D cA O A base n0 w0 nL (pc + 1) L (vi (x.toUInt32 % 65536).toInt32 :: S) σ) : z_W p l e R s m args below meth c Q D cA O A base n0 w0 nL pc L (vi x :: S) σ := by
  intro H locs ls hP hu hS hl hn hw
  exact lv_i2c X.1.1 X.1.2.1 hd rfl (w H locs ls hP hu hS hl hn hw)
theorem z_s_iload (X : z_C p s m args c cc own nL D cA O A base n0) {i : Nat} {x : Int32} (hg : z_lg L i = some (vi x)) (hd : decode cc pc = .ok (.iload i, 2)) (w : z_W p l e R s m args below meth c Q D cA O A base n0 w0 nL (pc + 2) L (vi x :: S) σ) : z_W p l e R s m args below meth c Q D cA O A base n0 w0 nL pc L (S) σ := by
  intro H locs ls hP hu hS hl hn hw
  exact lv_iload X.1.1 X.1.2.1 hd (hl.2.2.2 i _ hg) (w H locs ls hP hu hS hl hn hw)
theorem z_s_iload_n (X : z_C p s m args c cc own nL D cA O A base n0) {i : Fin 4} {x : Int32} (hg : z_lg L i.val = some (vi x)) (hd : decode cc pc = .ok (.iload_n i, 1)) (w : z_W p l e R s m args below meth c Q D cA O A base n0 w0 nL (pc + 1) L (vi x :: S) σ) : z_W p l e R s m args below meth c Q D cA O A base n0 w0 nL pc L (S) σ := by
  intro H locs ls hP hu hS hl hn hw
  exact lv_iload_n X.1.1 X.1.2.1 hd rfl (hl.2.2.2 i.val _ hg) (w H locs ls hP hu hS hl hn hw)
theorem z_s_lload (X : z_C p s m args c cc own nL D cA O A base n0) {i : Nat} {x : Int64} (hg : z_lg L i = some (vl x)) (hd : decode cc pc = .ok (.lload i, 2)) (w : z_W p l e R s m args below meth c Q D cA O A base n0 w0 nL (pc + 2) L (vl x :: S) σ) : z_W p l e R s m args below meth c Q D cA O A base n0 w0 nL pc L (S) σ := by
  intro H locs ls hP hu hS hl hn hw
  exact lv_lload X.1.1 X.1.2.1 hd (hl.2.2.2 i _ hg) (w H locs ls hP hu hS hl hn hw)
theorem z_s_lload_n (X : z_C p s m args c cc own nL D cA O A base n0) {i : Fin 4} {x : Int64} (hg : z_lg L i.val = some (vl x)) (hd : decode cc pc = .ok (.lload_n i, 1)) (w : z_W p l e R s m args below meth c Q D cA O A base n0 w0 nL (pc + 1) L (vl x :: S) σ) : z_W p l e R s m args below meth c Q D cA O A base n0 w0 nL pc L (S) σ := by
  intro H locs ls hP hu hS hl hn hw
  exact lv_lload_n X.1.1 X.1.2.1 hd rfl (hl.2.2.2 i.val _ hg) (w H locs ls hP hu hS hl hn hw)
theorem z_s_aload (X : z_C p s m args c cc own nL D cA O A base n0) {i : Nat} {r : Nat} (hg : z_lg L i = some (vr r)) (hd : decode cc pc = .ok (.aload i, 2)) (w : z_W p l e R s m args below meth c Q D cA O A base n0 w0 nL (pc + 2) L (vr r :: S) σ) : z_W p l e R s m args below meth c Q D cA O A base n0 w0 nL pc L S σ := by
  intro H locs ls hP hu hS hl hn hw
  have w' := w H locs ls hP hu hS hl hn hw
  have hv : ls[i]? = some (.val (A r)) := hl.2.2.2 _ _ hg
  rw [show (vr r :: S).map (z_cv A) = A r :: S.map (z_cv A) from rfl] at w'
  rcases X.2.2.1 r with h | ⟨a, h⟩
  · rw [h] at w' hv
    exact lv_aloadN X.1.1 X.1.2.1 hd hv w'
  · rw [h] at w' hv
    exact lv_aload X.1.1 X.1.2.1 hd hv w'
theorem z_s_aload_n (X : z_C p s m args c cc own nL D cA O A base n0) {i : Fin 4} {r : Nat} (hg : z_lg L i.val = some (vr r)) (hd : decode cc pc = .ok (.aload_n i, 1)) (w : z_W p l e R s m args below meth c Q D cA O A base n0 w0 nL (pc + 1) L (vr r :: S) σ) : z_W p l e R s m args below meth c Q D cA O A base n0 w0 nL pc L S σ := by
  intro H locs ls hP hu hS hl hn hw
  have w' := w H locs ls hP hu hS hl hn hw
  have hv : ls[i.val]? = some (.val (A r)) := hl.2.2.2 _ _ hg
  rw [show (vr r :: S).map (z_cv A) = A r :: S.map (z_cv A) from rfl] at w'
  rcases X.2.2.1 r with h | ⟨a, h⟩
  · rw [h] at w' hv
    exact lv_aload_nN X.1.1 X.1.2.1 hd rfl hv w'
  · rw [h] at w' hv
    exact lv_aload_n X.1.1 X.1.2.1 hd rfl hv w'
theorem z_s_astore (X : z_C p s m args c cc own nL D cA O A base n0) {i : Nat} {r : Nat} (hi : i < nL) (hd : decode cc pc = .ok (.astore i, 2)) (w : z_W p l e R s m args below meth c Q D cA O A base n0 w0 nL (pc + 2) (z_ls L i (vr r)) S σ) : z_W p l e R s m args below meth c Q D cA O A base n0 w0 nL pc L (vr r :: S) σ := by
  intro H locs ls hP hu hS hl hn hw
  rw [show (vr r :: S).map (z_cv A) = A r :: S.map (z_cv A) from rfl]
  rcases X.2.2.1 r with h | ⟨a, h⟩
  · rw [h]
    exact lv_astoreN X.1.1 X.1.2.1 hd (z_lv_has hl) hi rfl (fun ls' h' => w H locs ls' hP hu hS (z_lv_set X.2.2.1 hl (by rw [show z_cv A (vr r) = A r from rfl, h]; exact h')) hn hw)
  · rw [h]
    exact lv_astore X.1.1 X.1.2.1 hd (z_lv_has hl) hi rfl (fun ls' h' => w H locs ls' hP hu hS (z_lv_set X.2.2.1 hl (by rw [show z_cv A (vr r) = A r from rfl, h]; exact h')) hn hw)
theorem z_s_astore_n (X : z_C p s m args c cc own nL D cA O A base n0) {i : Fin 4} {r : Nat} (hi : i.val < nL) (hd : decode cc pc = .ok (.astore_n i, 1)) (w : z_W p l e R s m args below meth c Q D cA O A base n0 w0 nL (pc + 1) (z_ls L i.val (vr r)) S σ) : z_W p l e R s m args below meth c Q D cA O A base n0 w0 nL pc L (vr r :: S) σ := by
  intro H locs ls hP hu hS hl hn hw
  rw [show (vr r :: S).map (z_cv A) = A r :: S.map (z_cv A) from rfl]
  rcases X.2.2.1 r with h | ⟨a, h⟩
  · rw [h]
    exact lv_astore_nN X.1.1 X.1.2.1 hd rfl (z_lv_has hl) hi rfl (fun ls' h' => w H locs ls' hP hu hS (z_lv_set X.2.2.1 hl (by rw [show z_cv A (vr r) = A r from rfl, h]; exact h')) hn hw)
  · rw [h]
    exact lv_astore_n X.1.1 X.1.2.1 hd rfl (z_lv_has hl) hi rfl (fun ls' h' => w H locs ls' hP hu hS (z_lv_set X.2.2.1 hl (by rw [show z_cv A (vr r) = A r from rfl, h]; exact h')) hn hw)
theorem z_s_istore (X : z_C p s m args c cc own nL D cA O A base n0) {i : Nat} {x : Int32} (hi : i < nL) (hd : decode cc pc = .ok (.istore i, 2)) (w : z_W p l e R s m args below meth c Q D cA O A base n0 w0 nL (pc + 2) (z_ls L i (vi x)) S σ) : z_W p l e R s m args below meth c Q D cA O A base n0 w0 nL pc L (vi x :: S) σ := by
  intro H locs ls hP hu hS hl hn hw
  exact lv_istore X.1.1 X.1.2.1 hd (z_lv_has hl) hi rfl (fun ls' h' => w H locs ls' hP hu hS (z_lv_set (v := vi x) X.2.2.1 hl h') hn hw)
theorem z_s_istore_n (X : z_C p s m args c cc own nL D cA O A base n0) {i : Fin 4} {x : Int32} (hi : i.val < nL) (hd : decode cc pc = .ok (.istore_n i, 1)) (w : z_W p l e R s m args below meth c Q D cA O A base n0 w0 nL (pc + 1) (z_ls L i.val (vi x)) S σ) : z_W p l e R s m args below meth c Q D cA O A base n0 w0 nL pc L (vi x :: S) σ := by
  intro H locs ls hP hu hS hl hn hw
  exact lv_istore_n X.1.1 X.1.2.1 hd rfl (z_lv_has hl) hi rfl (fun ls' h' => w H locs ls' hP hu hS (z_lv_set (v := vi x) X.2.2.1 hl h') hn hw)
theorem z_s_lstore (X : z_C p s m args c cc own nL D cA O A base n0) {i : Nat} {x : Int64} (hi : i + 1 < nL) (hd : decode cc pc = .ok (.lstore i, 2)) (w : z_W p l e R s m args below meth c Q D cA O A base n0 w0 nL (pc + 2) (z_ls2 L i (vl x)) S σ) : z_W p l e R s m args below meth c Q D cA O A base n0 w0 nL pc L (vl x :: S) σ := by
  intro H locs ls hP hu hS hl hn hw
  exact lv_lstore X.1.1 X.1.2.1 hd (z_lv_has hl) hi rfl (fun ls' h' => w H locs ls' hP hu hS (z_lv_set2 (v := vl x) X.2.2.1 hi hl h') hn hw)
theorem z_s_lstore_n (X : z_C p s m args c cc own nL D cA O A base n0) {i : Fin 4} {x : Int64} (hi : i.val + 1 < nL) (hd : decode cc pc = .ok (.lstore_n i, 1)) (w : z_W p l e R s m args below meth c Q D cA O A base n0 w0 nL (pc + 1) (z_ls2 L i.val (vl x)) S σ) : z_W p l e R s m args below meth c Q D cA O A base n0 w0 nL pc L (vl x :: S) σ := by
  intro H locs ls hP hu hS hl hn hw
  exact lv_lstore_n X.1.1 X.1.2.1 hd rfl (z_lv_has hl) hi rfl (fun ls' h' => w H locs ls' hP hu hS (z_lv_set2 (v := vl x) X.2.2.1 hi hl h') hn hw)
theorem z_s_iinc (X : z_C p s m args c cc own nL D cA O A base n0) {i : Nat} {n : Int} {x : Int32} (hg : z_lg L i = some (vi x)) (hi : i < nL) (hd : decode cc pc = .ok (.iinc i n, 3)) (w : z_W p l e R s m args below meth c Q D cA O A base n0 w0 nL (pc + 3) (z_ls L i (vi (x + Int32.ofInt n))) S σ) : z_W p l e R s m args below meth c Q D cA O A base n0 w0 nL pc L S σ := by
  intro H locs ls hP hu hS hl hn hw
  obtain ⟨k, hk⟩ := List.getElem?_of_mem (z_pr_mem (A := A) hg)
  exact lv_iinc X.1.1 X.1.2.1 hd (z_lv_has hl) hk rfl hi rfl (fun ls' h' => w H locs ls' hP hu hS (z_lv_set (v := vi (x + Int32.ofInt n)) X.2.2.1 hl h') hn hw)
theorem z_s_null (X : z_C p s m args c cc own nL D cA O A base n0) (hd : decode cc pc = .ok (.aconst_null, 1)) (w : z_W p l e R s m args below meth c Q D cA O A base n0 w0 nL (pc + 1) L (vr 0 :: S) σ) : z_W p l e R s m args below meth c Q D cA O A base n0 w0 nL pc L S σ := by
  intro H locs ls hP hu hS hl hn hw
  have w' := w H locs ls hP hu hS hl hn hw
  rw [show (vr 0 :: S).map (z_cv A) = A 0 :: S.map (z_cv A) from rfl, X.2.2.2.1.1 0 rfl] at w'
  exact lv_null X.1.1 X.1.2.1 hd w'
theorem z_s_dup (X : z_C p s m args c cc own nL D cA O A base n0) {v : ZV} (hv : z_lw v = false) (hd : decode cc pc = .ok (.dup, 1)) (w : z_W p l e R s m args below meth c Q D cA O A base n0 w0 nL (pc + 1) L (v :: v :: S) σ) : z_W p l e R s m args below meth c Q D cA O A base n0 w0 nL pc L (v :: S) σ := by
  intro H locs ls hP hu hS hl hn hw
  exact lv_dup X.1.1 X.1.2.1 hd (by rw [z_cv_cat X.2.2.1, hv]; rfl) (w H locs ls hP hu hS hl hn hw)
theorem z_s_pop (X : z_C p s m args c cc own nL D cA O A base n0) {v : ZV} (hv : z_lw v = false) (hd : decode cc pc = .ok (.pop, 1)) (w : z_W p l e R s m args below meth c Q D cA O A base n0 w0 nL (pc + 1) L S σ) : z_W p l e R s m args below meth c Q D cA O A base n0 w0 nL pc L (v :: S) σ := by
  intro H locs ls hP hu hS hl hn hw
  exact lv_pop X.1.1 X.1.2.1 hd (by rw [z_cv_cat X.2.2.1, hv]; rfl) (w H locs ls hP hu hS hl hn hw)
theorem z_s_dup2 (X : z_C p s m args c cc own nL D cA O A base n0) {v u : ZV} (hv : z_lw v = false) (hu0 : z_lw u = false) (hd : decode cc pc = .ok (.dup2, 1)) (w : z_W p l e R s m args below meth c Q D cA O A base n0 w0 nL (pc + 1) L (v :: u :: v :: u :: S) σ) : z_W p l e R s m args below meth c Q D cA O A base n0 w0 nL pc L (v :: u :: S) σ := by
  intro H locs ls hP hu hS hl hn hw
  exact lv_dup2_11 X.1.1 X.1.2.1 hd (by rw [z_cv_cat X.2.2.1, hv]; rfl) (by rw [z_cv_cat X.2.2.1, hu0]; rfl) (w H locs ls hP hu hS hl hn hw)
theorem z_s_goto (X : z_C p s m args c cc own nL D cA O A base n0) {off : Int} {t : Nat} (ht : (pc : Int) + off = (t : Int)) (hd : decode cc pc = .ok (.goto off, 3)) (w : z_W p l e R s m args below meth c Q D cA O A base n0 w0 nL t L S σ) : z_W p l e R s m args below meth c Q D cA O A base n0 w0 nL pc L S σ := by
  intro H locs ls hP hu hS hl hn hw
  exact lv_goto X.1.1 X.1.2.1 hd ht (w H locs ls hP hu hS hl hn hw)
theorem z_s_if_eq (X : z_C p s m args c cc own nL D cA O A base n0) {x : Int32} {off : Int} {t : Nat} (ht : (pc : Int) + off = (t : Int)) (hd : decode cc pc = .ok (.ifCond .eq off, 3)) (wj : (x = 0) → z_W p l e R s m args below meth c Q D cA O A base n0 w0 nL t L S σ) (wn : (¬ x = 0) → z_W p l e R s m args below meth c Q D cA O A base n0 w0 nL (pc + 3) L S σ) : z_W p l e R s m args below meth c Q D cA O A base n0 w0 nL pc L (vi x :: S) σ := by
  intro H locs ls hP hu hS hl hn hw
  exact lv_if_eq X.1.1 X.1.2.1 hd ht (fun h => wj h H locs ls hP hu hS hl hn hw) (fun h => wn h H locs ls hP hu hS hl hn hw)
theorem z_s_if_ne (X : z_C p s m args c cc own nL D cA O A base n0) {x : Int32} {off : Int} {t : Nat} (ht : (pc : Int) + off = (t : Int)) (hd : decode cc pc = .ok (.ifCond .ne off, 3)) (wj : (¬ x = 0) → z_W p l e R s m args below meth c Q D cA O A base n0 w0 nL t L S σ) (wn : (x = 0) → z_W p l e R s m args below meth c Q D cA O A base n0 w0 nL (pc + 3) L S σ) : z_W p l e R s m args below meth c Q D cA O A base n0 w0 nL pc L (vi x :: S) σ := by
  intro H locs ls hP hu hS hl hn hw
  exact lv_if_ne X.1.1 X.1.2.1 hd ht (fun h => wj h H locs ls hP hu hS hl hn hw) (fun h => wn h H locs ls hP hu hS hl hn hw)
theorem z_s_if_lt (X : z_C p s m args c cc own nL D cA O A base n0) {x : Int32} {off : Int} {t : Nat} (ht : (pc : Int) + off = (t : Int)) (hd : decode cc pc = .ok (.ifCond .lt off, 3)) (wj : (x < 0) → z_W p l e R s m args below meth c Q D cA O A base n0 w0 nL t L S σ) (wn : (¬ x < 0) → z_W p l e R s m args below meth c Q D cA O A base n0 w0 nL (pc + 3) L S σ) : z_W p l e R s m args below meth c Q D cA O A base n0 w0 nL pc L (vi x :: S) σ := by
  intro H locs ls hP hu hS hl hn hw
  exact lv_if_lt X.1.1 X.1.2.1 hd ht (fun h => wj h H locs ls hP hu hS hl hn hw) (fun h => wn h H locs ls hP hu hS hl hn hw)
theorem z_s_if_ge (X : z_C p s m args c cc own nL D cA O A base n0) {x : Int32} {off : Int} {t : Nat} (ht : (pc : Int) + off = (t : Int)) (hd : decode cc pc = .ok (.ifCond .ge off, 3)) (wj : (¬ x < 0) → z_W p l e R s m args below meth c Q D cA O A base n0 w0 nL t L S σ) (wn : (x < 0) → z_W p l e R s m args below meth c Q D cA O A base n0 w0 nL (pc + 3) L S σ) : z_W p l e R s m args below meth c Q D cA O A base n0 w0 nL pc L (vi x :: S) σ := by
  intro H locs ls hP hu hS hl hn hw
  exact lv_if_ge X.1.1 X.1.2.1 hd ht (fun h => wj (by exact Int32.not_lt.mpr h) H locs ls hP hu hS hl hn hw) (fun h => wn (by exact Int32.not_le.mp h) H locs ls hP hu hS hl hn hw)
theorem z_s_if_gt (X : z_C p s m args c cc own nL D cA O A base n0) {x : Int32} {off : Int} {t : Nat} (ht : (pc : Int) + off = (t : Int)) (hd : decode cc pc = .ok (.ifCond .gt off, 3)) (wj : (0 < x) → z_W p l e R s m args below meth c Q D cA O A base n0 w0 nL t L S σ) (wn : (¬ 0 < x) → z_W p l e R s m args below meth c Q D cA O A base n0 w0 nL (pc + 3) L S σ) : z_W p l e R s m args below meth c Q D cA O A base n0 w0 nL pc L (vi x :: S) σ := by
  intro H locs ls hP hu hS hl hn hw
  exact lv_if_gt X.1.1 X.1.2.1 hd ht (fun h => wj h H locs ls hP hu hS hl hn hw) (fun h => wn h H locs ls hP hu hS hl hn hw)
theorem z_s_if_le (X : z_C p s m args c cc own nL D cA O A base n0) {x : Int32} {off : Int} {t : Nat} (ht : (pc : Int) + off = (t : Int)) (hd : decode cc pc = .ok (.ifCond .le off, 3)) (wj : (¬ 0 < x) → z_W p l e R s m args below meth c Q D cA O A base n0 w0 nL t L S σ) (wn : (0 < x) → z_W p l e R s m args below meth c Q D cA O A base n0 w0 nL (pc + 3) L S σ) : z_W p l e R s m args below meth c Q D cA O A base n0 w0 nL pc L (vi x :: S) σ := by
  intro H locs ls hP hu hS hl hn hw
  exact lv_if_le X.1.1 X.1.2.1 hd ht (fun h => wj (by exact Int32.not_lt.mpr h) H locs ls hP hu hS hl hn hw) (fun h => wn (by exact Int32.not_le.mp h) H locs ls hP hu hS hl hn hw)
theorem z_s_icmp_eq (X : z_C p s m args c cc own nL D cA O A base n0) {x y : Int32} {off : Int} {t : Nat} (ht : (pc : Int) + off = (t : Int)) (hd : decode cc pc = .ok (.if_icmp .eq off, 3)) (wj : (x = y) → z_W p l e R s m args below meth c Q D cA O A base n0 w0 nL t L S σ) (wn : (¬ x = y) → z_W p l e R s m args below meth c Q D cA O A base n0 w0 nL (pc + 3) L S σ) : z_W p l e R s m args below meth c Q D cA O A base n0 w0 nL pc L (vi y :: vi x :: S) σ := by
  intro H locs ls hP hu hS hl hn hw
  exact lv_icmp_eq X.1.1 X.1.2.1 hd ht (fun h => wj h H locs ls hP hu hS hl hn hw) (fun h => wn h H locs ls hP hu hS hl hn hw)
theorem z_s_icmp_ne (X : z_C p s m args c cc own nL D cA O A base n0) {x y : Int32} {off : Int} {t : Nat} (ht : (pc : Int) + off = (t : Int)) (hd : decode cc pc = .ok (.if_icmp .ne off, 3)) (wj : (¬ x = y) → z_W p l e R s m args below meth c Q D cA O A base n0 w0 nL t L S σ) (wn : (x = y) → z_W p l e R s m args below meth c Q D cA O A base n0 w0 nL (pc + 3) L S σ) : z_W p l e R s m args below meth c Q D cA O A base n0 w0 nL pc L (vi y :: vi x :: S) σ := by
  intro H locs ls hP hu hS hl hn hw
  exact lv_icmp_ne X.1.1 X.1.2.1 hd ht (fun h => wj h H locs ls hP hu hS hl hn hw) (fun h => wn h H locs ls hP hu hS hl hn hw)
theorem z_s_icmp_lt (X : z_C p s m args c cc own nL D cA O A base n0) {x y : Int32} {off : Int} {t : Nat} (ht : (pc : Int) + off = (t : Int)) (hd : decode cc pc = .ok (.if_icmp .lt off, 3)) (wj : (x < y) → z_W p l e R s m args below meth c Q D cA O A base n0 w0 nL t L S σ) (wn : (¬ x < y) → z_W p l e R s m args below meth c Q D cA O A base n0 w0 nL (pc + 3) L S σ) : z_W p l e R s m args below meth c Q D cA O A base n0 w0 nL pc L (vi y :: vi x :: S) σ := by
  intro H locs ls hP hu hS hl hn hw
  exact lv_icmp_lt X.1.1 X.1.2.1 hd ht (fun h => wj h H locs ls hP hu hS hl hn hw) (fun h => wn h H locs ls hP hu hS hl hn hw)
theorem z_s_icmp_ge (X : z_C p s m args c cc own nL D cA O A base n0) {x y : Int32} {off : Int} {t : Nat} (ht : (pc : Int) + off = (t : Int)) (hd : decode cc pc = .ok (.if_icmp .ge off, 3)) (wj : (¬ x < y) → z_W p l e R s m args below meth c Q D cA O A base n0 w0 nL t L S σ) (wn : (x < y) → z_W p l e R s m args below meth c Q D cA O A base n0 w0 nL (pc + 3) L S σ) : z_W p l e R s m args below meth c Q D cA O A base n0 w0 nL pc L (vi y :: vi x :: S) σ := by
  intro H locs ls hP hu hS hl hn hw
  exact lv_icmp_ge X.1.1 X.1.2.1 hd ht (fun h => wj (by exact Int32.not_lt.mpr h) H locs ls hP hu hS hl hn hw) (fun h => wn (by exact Int32.not_le.mp h) H locs ls hP hu hS hl hn hw)
theorem z_s_icmp_gt (X : z_C p s m args c cc own nL D cA O A base n0) {x y : Int32} {off : Int} {t : Nat} (ht : (pc : Int) + off = (t : Int)) (hd : decode cc pc = .ok (.if_icmp .gt off, 3)) (wj : (y < x) → z_W p l e R s m args below meth c Q D cA O A base n0 w0 nL t L S σ) (wn : (¬ y < x) → z_W p l e R s m args below meth c Q D cA O A base n0 w0 nL (pc + 3) L S σ) : z_W p l e R s m args below meth c Q D cA O A base n0 w0 nL pc L (vi y :: vi x :: S) σ := by
  intro H locs ls hP hu hS hl hn hw
  exact lv_icmp_gt X.1.1 X.1.2.1 hd ht (fun h => wj h H locs ls hP hu hS hl hn hw) (fun h => wn h H locs ls hP hu hS hl hn hw)
theorem z_s_icmp_le (X : z_C p s m args c cc own nL D cA O A base n0) {x y : Int32} {off : Int} {t : Nat} (ht : (pc : Int) + off = (t : Int)) (hd : decode cc pc = .ok (.if_icmp .le off, 3)) (wj : (¬ y < x) → z_W p l e R s m args below meth c Q D cA O A base n0 w0 nL t L S σ) (wn : (y < x) → z_W p l e R s m args below meth c Q D cA O A base n0 w0 nL (pc + 3) L S σ) : z_W p l e R s m args below meth c Q D cA O A base n0 w0 nL pc L (vi y :: vi x :: S) σ := by
  intro H locs ls hP hu hS hl hn hw
  exact lv_icmp_le X.1.1 X.1.2.1 hd ht (fun h => wj (by exact Int32.not_lt.mpr h) H locs ls hP hu hS hl hn hw) (fun h => wn (by exact Int32.not_le.mp h) H locs ls hP hu hS hl hn hw)
theorem z_s_ifnull (X : z_C p s m args c cc own nL D cA O A base n0) {r : Nat} (h9 : ¬ r = 9) {off : Int} {t : Nat} (ht : (pc : Int) + off = (t : Int)) (hd : decode cc pc = .ok (.ifnull off, 3)) (wj : r = 0 → z_W p l e R s m args below meth c Q D cA O A base n0 w0 nL t L S σ) (wn : ¬ r = 0 → z_W p l e R s m args below meth c Q D cA O A base n0 w0 nL (pc + 3) L S σ) : z_W p l e R s m args below meth c Q D cA O A base n0 w0 nL pc L (vr r :: S) σ := by
  intro H locs ls hP hu hS hl hn hw
  rw [show (vr r :: S).map (z_cv A) = A r :: S.map (z_cv A) from rfl]
  by_cases h0 : r = 0
  · rw [X.2.2.2.1.1 r h0]
    exact lv_ifnullN X.1.1 X.1.2.1 hd ht (wj h0 H locs ls hP hu hS hl hn hw)
  · rcases X.2.2.1 r with h | ⟨a, h⟩
    · exact ((X.2.2.2.1.2 r h).elim h0 h9).elim
    · rw [h]
      exact lv_ifnull X.1.1 X.1.2.1 hd (wn h0 H locs ls hP hu hS hl hn hw)
theorem z_s_ifnonnull (X : z_C p s m args c cc own nL D cA O A base n0) {r : Nat} (h9 : ¬ r = 9) {off : Int} {t : Nat} (ht : (pc : Int) + off = (t : Int)) (hd : decode cc pc = .ok (.ifnonnull off, 3)) (wj : ¬ r = 0 → z_W p l e R s m args below meth c Q D cA O A base n0 w0 nL t L S σ) (wn : r = 0 → z_W p l e R s m args below meth c Q D cA O A base n0 w0 nL (pc + 3) L S σ) : z_W p l e R s m args below meth c Q D cA O A base n0 w0 nL pc L (vr r :: S) σ := by
  intro H locs ls hP hu hS hl hn hw
  rw [show (vr r :: S).map (z_cv A) = A r :: S.map (z_cv A) from rfl]
  by_cases h0 : r = 0
  · rw [X.2.2.2.1.1 r h0]
    exact lv_ifnonnullN X.1.1 X.1.2.1 hd (wn h0 H locs ls hP hu hS hl hn hw)
  · rcases X.2.2.1 r with h | ⟨a, h⟩
    · exact ((X.2.2.2.1.2 r h).elim h0 h9).elim
    · rw [h]
      exact lv_ifnonnull X.1.1 X.1.2.1 hd ht (wj h0 H locs ls hP hu hS hl hn hw)
theorem z_s_tableOut (X : z_C p s m args c cc own nL D cA O A base n0) {x : Int32} {dflt lo hi : Int} {offs : Array Int} {len t : Nat} (h : x.toInt < lo ∨ hi < x.toInt) (ht : (pc : Int) + dflt = (t : Int)) (hd : decode cc pc = .ok (.tableswitch dflt lo hi offs, len)) (w : z_W p l e R s m args below meth c Q D cA O A base n0 w0 nL t L S σ) : z_W p l e R s m args below meth c Q D cA O A base n0 w0 nL pc L (vi x :: S) σ := by
  intro H locs ls hP hu hS hl hn hw
  exact lv_tableOut X.1.1 X.1.2.1 hd h ht (w H locs ls hP hu hS hl hn hw)
theorem z_s_tableIn (X : z_C p s m args c cc own nL D cA O A base n0) {x : Int32} {dflt lo hi off : Int} {offs : Array Int} {len t : Nat} (h1 : ¬ x.toInt < lo) (h2 : ¬ hi < x.toInt) (ho : offs[(x.toInt - lo).toNat]? = some off) (ht : (pc : Int) + off = (t : Int)) (hd : decode cc pc = .ok (.tableswitch dflt lo hi offs, len)) (w : z_W p l e R s m args below meth c Q D cA O A base n0 w0 nL t L S σ) : z_W p l e R s m args below meth c Q D cA O A base n0 w0 nL pc L (vi x :: S) σ := by
  intro H locs ls hP hu hS hl hn hw
  exact lv_tableIn X.1.1 X.1.2.1 hd h1 h2 ho ht (w H locs ls hP hu hS hl hn hw)
theorem z_s_ldc (X : z_C p s m args c cc own nL D cA O A base n0) {i : Nat} {x : Int32} (hc : Cond.constant own i x ∈ z_tb) (hd : decode cc pc = .ok (.ldc i, 2)) (w : z_W p l e R s m args below meth c Q D cA O A base n0 w0 nL (pc + 2) L (vi x :: S) σ) : z_W p l e R s m args below meth c Q D cA O A base n0 w0 nL pc L S σ := by
  intro H locs ls hP hu hS hl hn hw
  exact lv_ldc X.1.1 X.1.2.1 X.1.2.2.2.1 (X.1.2.2.2.2 _ hc) hd (w H locs ls hP hu hS hl hn hw)
theorem z_s_ldcw (X : z_C p s m args c cc own nL D cA O A base n0) {i : Nat} {x : Int32} (hc : Cond.constant own i x ∈ z_tb) (hd : decode cc pc = .ok (.ldc_w i, 3)) (w : z_W p l e R s m args below meth c Q D cA O A base n0 w0 nL (pc + 3) L (vi x :: S) σ) : z_W p l e R s m args below meth c Q D cA O A base n0 w0 nL pc L S σ := by
  intro H locs ls hP hu hS hl hn hw
  exact lv_ldcw X.1.1 X.1.2.1 X.1.2.2.2.1 (X.1.2.2.2.2 _ hc) hd (w H locs ls hP hu hS hl hn hw)
theorem z_s_ldc2 (X : z_C p s m args c cc own nL D cA O A base n0) {i : Nat} {x : Int64} (hc : Cond.constantLong own i x ∈ z_tb) (hd : decode cc pc = .ok (.ldc2_w i, 3)) (w : z_W p l e R s m args below meth c Q D cA O A base n0 w0 nL (pc + 3) L (vl x :: S) σ) : z_W p l e R s m args below meth c Q D cA O A base n0 w0 nL pc L S σ := by
  intro H locs ls hP hu hS hl hn hw
  exact lv_ldc2 X.1.1 X.1.2.1 X.1.2.2.2.1 (X.1.2.2.2.2 _ hc) hd (w H locs ls hP hu hS hl hn hw)
end ZROWS

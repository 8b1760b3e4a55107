/-! A SMALL MACHINE of our own: values, memory, and a step for each instruction that occurs. Sound over the kit's W (part sound). A cell is named by a number: 0 is null, 1 .. 9 are cells that were there before, 10 and on are the cells that the law makes, in their order. -/
abbrev ZV : Type := Int32 ⊕ (Int64 ⊕ Nat)
abbrev ZM : Type := (Nat → Nat × Nat) × (Nat → Nat → Int32) × (Nat → Nat → Int64) × (Nat → Nat → Nat) × Nat × Nat
abbrev ZR : Type := Option (ZV × ZM)
abbrev ZL : Type := List (Option ZV)
abbrev vi (x : Int32) : ZV := .inl x
abbrev vl (x : Int64) : ZV := .inr (.inl x)
abbrev vr (r : Nat) : ZV := .inr (.inr r)
/-- a cell's kind (objects: the class's number and one; 20 int[], 21 byte[], 22 boolean[], 23 long[], 24 Text[]), its length -/
def z_kd (σ : ZM) (r : Nat) : Nat := (σ.1 r).1
def z_ln (σ : ZM) (r : Nat) : Nat := (σ.1 r).2
def z_i (σ : ZM) (r k : Nat) : Int32 := σ.2.1 r k
def z_l (σ : ZM) (r k : Nat) : Int64 := σ.2.2.1 r k
def z_r (σ : ZM) (r k : Nat) : Nat := σ.2.2.2.1 r k
/-- how many cells there are (the next cell's number), how many slots were made -/
def z_sz (σ : ZM) : Nat := σ.2.2.2.2.1
def z_sw (σ : ZM) : Nat := σ.2.2.2.2.2
def z_ui (σ : ZM) (r k : Nat) (x : Int32) : ZM := (σ.1, (fun a j => if a = r ∧ j = k then x else σ.2.1 a j), σ.2.2)
def z_ul (σ : ZM) (r k : Nat) (x : Int64) : ZM := (σ.1, σ.2.1, (fun a j => if a = r ∧ j = k then x else σ.2.2.1 a j), σ.2.2.2)
def z_ur (σ : ZM) (r k : Nat) (x : Nat) : ZM := (σ.1, σ.2.1, σ.2.2.1, (fun a j => if a = r ∧ j = k then x else σ.2.2.2.1 a j), σ.2.2.2.2)
/-- a new cell of kind kd, of length len, of n slots -/
def z_al (σ : ZM) (kd len n : Nat) : ZM :=
  ((fun a => if a = z_sz σ then (kd, len) else σ.1 a), (fun a j => if a = z_sz σ then 0 else σ.2.1 a j), (fun a j => if a = z_sz σ then 0 else σ.2.2.1 a j), (fun a j => if a = z_sz σ then 0 else σ.2.2.2.1 a j), z_sz σ + 1, z_sw σ + n)
/-- ints copied -/
def z_cp (σ : ZM) (src sp dst dp n : Nat) : ZM := (σ.1, (fun a j => if a = dst ∧ dp ≤ j ∧ j < dp + n then σ.2.1 src (sp + (j - dp)) else σ.2.1 a j), σ.2.2)
def z_g (b : Bool) (x : ZR) : ZR := cond b x none
def z_bI (x : ZR) (f : Int32 → ZM → ZR) : ZR := match x with
  | some (.inl v, σ) => f v σ
  | _ => none
def z_bL (x : ZR) (f : Int64 → ZM → ZR) : ZR := match x with
  | some (.inr (.inl v), σ) => f v σ
  | _ => none
def z_bR (x : ZR) (f : Nat → ZM → ZR) : ZR := match x with
  | some (.inr (.inr v), σ) => f v σ
  | _ => none
def z_bV (x : ZR) (f : ZM → ZR) : ZR := match x with
  | some (.inl _, σ) => f σ
  | _ => none
def z_ix (i : Int32) (n : Nat) : Bool := decide (0 ≤ i) && decide (i.toNatClampNeg < n)
def z_at (σ : ZM) (r kd : Nat) (i : Int32) : Bool := (z_kd σ r == kd) && z_ix i (z_ln σ r)
/-- what a byte[] or boolean[] keeps of an int -/
def z_bv (σ : ZM) (r : Nat) (x : Int32) : Int32 := if z_kd σ r = 21 then x.toInt8.toInt32 else x &&& 1
/-- a class's links: fields (kind, slot, sort, final), methods (number, arguments, sort of the answer, kind of the receiver or 0), constants, statics, classes (kind, slots). Sorts: 0 int, 1 boolean, 2 long, 3 reference, 4 none, 5 char, 6 byte -/
abbrev ZC : Type := (Nat → Option (Nat × Nat × Nat × Bool)) × (Nat → Option (Nat × Nat × Nat × Nat)) × (Nat → Option ZV) × (Nat → Option ZV) × (Nat → Option (Nat × Nat))
/-- a method: its class's links, its code, its cuts (with the locals that live there), the sort of its answer, its locals -/
abbrev ZD : Type := ZC × (Nat → Option (Instr × Nat)) × (Nat → Option (List Bool)) × Nat × Nat
def z_lg (L : ZL) (i : Nat) : Option ZV := L.getD i none
def z_clr (a : Option ZV) : Option ZV := match a with
  | some (.inr (.inl _)) => none
  | a => a
/-- a local is set: a long ahead of it that reaches into it is gone -/
def z_ls (L : ZL) (i : Nat) (v : ZV) : ZL := match L, i with
  | [], _ => []
  | _ :: L, 0 => some v :: L
  | a :: L, 1 => z_clr a :: z_ls L 0 v
  | a :: L, i + 2 => a :: z_ls L (i + 1) v
def z_ls2 (L : ZL) (i : Nat) (v : ZV) : ZL := match L, i with
  | _ :: _ :: L, 0 => some v :: none :: L
  | a :: L, 1 => z_clr a :: z_ls2 L 0 v
  | a :: L, i + 2 => a :: z_ls2 L (i + 1) v
  | _, _ => []
def z_cut (b : List Bool) (L : ZL) : ZL := match b, L with
  | true :: b, v :: L => v :: z_cut b L
  | false :: b, _ :: L => none :: z_cut b L
  | _, _ => []
def z_take (n : Nat) (S acc : List ZV) : Option (List ZV × List ZV) := match n, S with
  | 0, S => some (acc, S)
  | n + 1, v :: S => z_take n S (v :: acc)
  | _ + 1, [] => none
def z_cat (S : List ZV) : Nat := match S with
  | [] => 0
  | .inr (.inl _) :: S => z_cat S + 2
  | _ :: S => z_cat S + 1
def z_rcv (ck : Nat) (as : List ZV) (σ : ZM) : Bool := match ck with
  | 0 => true
  | 100 => match as with
    | .inr (.inr r) :: _ => !(r == 0) && !(r == 9)
    | _ => false
  | ck => match as with
    | .inr (.inr r) :: _ => z_kd σ r == ck
    | _ => false
abbrev ZK : Type := Nat → ZL → List ZV → ZM → ZR
def z_jmp (pc : Nat) (off : Int) (f : Nat → ZR) : ZR := match (pc : Int) + off with
  | .ofNat t => f t
  | .negSucc _ => none
def z_inv (cl : Nat → List ZV → ZM → ZR) (mt : Option (Nat × Nat × Nat × Nat)) (nx : Nat) (L : ZL) (S : List ZV) (σ : ZM) (k : ZK) : ZR := match mt with
  | none => none
  | some (mn, na, rk, ck) => match z_take na S [] with
    | none => none
    | some (as, rest) => z_g (Nat.ble (z_cat rest) 8 && z_rcv ck as σ) (match rk with
      | 2 => z_bL (cl mn as σ) (fun v τ => k nx L (vl v :: rest) τ)
      | 3 => z_bR (cl mn as σ) (fun v τ => k nx L (vr v :: rest) τ)
      | 4 => z_bV (cl mn as σ) (fun τ => k nx L rest τ)
      | _ => z_bI (cl mn as σ) (fun v τ => k nx L (vi v :: rest) τ))
/-- an int of a sort that an answer or a field may hold -/
def z_fit (sort : Nat) (x : Int32) : Bool := match sort with
  | 0 => true
  | 1 => x == 0 || x == 1
  | 5 => (x.toUInt32 % 65536).toInt32 == x
  | 6 => x.toInt8.toInt32 == x
  | _ => false
def z_sw1 (x : Int32) (pc : Nat) (f : Nat → ZR) (dflt : Int) : Int → List Int → ZR
  | _, [] => z_jmp pc dflt f
  | lo, o :: os => if x = Int32.ofInt lo then z_jmp pc o f else z_sw1 x pc f dflt (lo + 1) os
def z_arrK (t : ArrayType) : Nat := match t with
  | .boolean => 22
  | .byte => 21
  | .int => 20
  | .long => 23
  | _ => 0
def z_step (d : ZD) (cl : Nat → List ZV → ZM → ZR) (i : Instr) (pc nx : Nat) (L : ZL) (S : List ZV) (σ : ZM) (k : ZK) : ZR :=
  match i with
  | .aconst_null => k nx L (vr 0 :: S) σ
  | .iconst n => k nx L (vi (Int32.ofInt n) :: S) σ
  | .lconst n => k nx L (vl (Int64.ofNat n.val) :: S) σ
  | .bipush n => k nx L (vi (Int8.ofInt n).toInt32 :: S) σ
  | .sipush n => k nx L (vi (Int16.ofInt n).toInt32 :: S) σ
  | .ldc n => match d.1.2.2.1 n with | some v => k nx L (v :: S) σ | none => none
  | .ldc_w n => match d.1.2.2.1 n with | some v => k nx L (v :: S) σ | none => none
  | .ldc2_w n => match d.1.2.2.1 n with | some v => k nx L (v :: S) σ | none => none
  | .getstatic n => match d.1.2.2.2.1 n with | some v => k nx L (v :: S) σ | none => none
  | .iload n => match z_lg L n with | some (.inl x) => k nx L (vi x :: S) σ | _ => none
  | .iload_n n => match z_lg L n.val with | some (.inl x) => k nx L (vi x :: S) σ | _ => none
  | .lload n => match z_lg L n with | some (.inr (.inl x)) => k nx L (vl x :: S) σ | _ => none
  | .lload_n n => match z_lg L n.val with | some (.inr (.inl x)) => k nx L (vl x :: S) σ | _ => none
  | .aload n => match z_lg L n with | some (.inr (.inr x)) => k nx L (vr x :: S) σ | _ => none
  | .aload_n n => match z_lg L n.val with | some (.inr (.inr x)) => k nx L (vr x :: S) σ | _ => none
  | .istore n => match S with | .inl x :: S => z_g (Nat.blt n L.length) (k nx (z_ls L n (vi x)) S σ) | _ => none
  | .istore_n n => match S with | .inl x :: S => z_g (Nat.blt n.val L.length) (k nx (z_ls L n.val (vi x)) S σ) | _ => none
  | .lstore n => match S with | .inr (.inl x) :: S => z_g (Nat.blt (n + 1) L.length) (k nx (z_ls2 L n (vl x)) S σ) | _ => none
  | .lstore_n n => match S with | .inr (.inl x) :: S => z_g (Nat.blt (n.val + 1) L.length) (k nx (z_ls2 L n.val (vl x)) S σ) | _ => none
  | .astore n => match S with | .inr (.inr x) :: S => z_g (Nat.blt n L.length) (k nx (z_ls L n (vr x)) S σ) | _ => none
  | .astore_n n => match S with | .inr (.inr x) :: S => z_g (Nat.blt n.val L.length) (k nx (z_ls L n.val (vr x)) S σ) | _ => none
  | .iinc n c => match z_lg L n with | some (.inl x) => z_g (Nat.blt n L.length) (k nx (z_ls L n (vi (x + Int32.ofInt c))) S σ) | _ => none
  | .dup => match S with | .inl x :: S => k nx L (vi x :: vi x :: S) σ | .inr (.inr x) :: S => k nx L (vr x :: vr x :: S) σ | _ => none
  | .dup2 => match S with | .inl y :: .inr (.inr x) :: S => k nx L (vi y :: vr x :: vi y :: vr x :: S) σ | _ => none
  | .pop => match S with | .inl _ :: S => k nx L S σ | .inr (.inr _) :: S => k nx L S σ | _ => none
  | .iadd => match S with | .inl y :: .inl x :: S => k nx L (vi (x + y) :: S) σ | _ => none
  | .isub => match S with | .inl y :: .inl x :: S => k nx L (vi (x - y) :: S) σ | _ => none
  | .imul => match S with | .inl y :: .inl x :: S => k nx L (vi (x * y) :: S) σ | _ => none
  | .iand => match S with | .inl y :: .inl x :: S => k nx L (vi (x &&& y) :: S) σ | _ => none
  | .ior => match S with | .inl y :: .inl x :: S => k nx L (vi (x ||| y) :: S) σ | _ => none
  | .ixor => match S with | .inl y :: .inl x :: S => k nx L (vi (x ^^^ y) :: S) σ | _ => none
  | .ishl => match S with | .inl y :: .inl x :: S => k nx L (vi (x <<< (y &&& 31)) :: S) σ | _ => none
  | .ishr => match S with | .inl y :: .inl x :: S => k nx L (vi (x >>> (y &&& 31)) :: S) σ | _ => none
  | .iushr => match S with | .inl y :: .inl x :: S => k nx L (vi (x.toUInt32 >>> (y.toUInt32 &&& Int32.toUInt32 31)).toInt32 :: S) σ | _ => none
  | .idiv => match S with | .inl y :: .inl x :: S => z_g (!(y == 0)) (k nx L (vi (x / y) :: S) σ) | _ => none
  | .irem => match S with | .inl y :: .inl x :: S => z_g (!(y == 0)) (k nx L (vi (x - x / y * y) :: S) σ) | _ => none
  | .ineg => match S with | .inl x :: S => k nx L (vi (-x) :: S) σ | _ => none
  | .ladd => match S with | .inr (.inl y) :: .inr (.inl x) :: S => k nx L (vl (x + y) :: S) σ | _ => none
  | .lsub => match S with | .inr (.inl y) :: .inr (.inl x) :: S => k nx L (vl (x - y) :: S) σ | _ => none
  | .lmul => match S with | .inr (.inl y) :: .inr (.inl x) :: S => k nx L (vl (x * y) :: S) σ | _ => none
  | .lor => match S with | .inr (.inl y) :: .inr (.inl x) :: S => k nx L (vl (x ||| y) :: S) σ | _ => none
  | .ldiv => match S with | .inr (.inl y) :: .inr (.inl x) :: S => z_g (!(y == 0)) (k nx L (vl (x / y) :: S) σ) | _ => none
  | .lrem => match S with | .inr (.inl y) :: .inr (.inl x) :: S => z_g (!(y == 0)) (k nx L (vl (x - x / y * y) :: S) σ) | _ => none
  | .lneg => match S with | .inr (.inl x) :: S => k nx L (vl (-x) :: S) σ | _ => none
  | .lshl => match S with | .inl y :: .inr (.inl x) :: S => k nx L (vl (x <<< (y.toInt64 &&& 63)) :: S) σ | _ => none
  | .lshr => match S with | .inl y :: .inr (.inl x) :: S => k nx L (vl (x >>> (y.toInt64 &&& 63)) :: S) σ | _ => none
  | .lcmp => match S with | .inr (.inl y) :: .inr (.inl x) :: S => k nx L (vi (lg_cmp x y) :: S) σ | _ => none
  | .i2l => match S with | .inl x :: S => k nx L (vl x.toInt64 :: S) σ | _ => none
  | .l2i => match S with | .inr (.inl x) :: S => k nx L (vi x.toInt32 :: S) σ | _ => none
  | .i2b => match S with | .inl x :: S => k nx L (vi x.toInt8.toInt32 :: S) σ | _ => none
  | .i2c => match S with | .inl x :: S => k nx L (vi (x.toUInt32 % 65536).toInt32 :: S) σ | _ => none
  | .goto off => z_jmp pc off (fun t => k t L S σ)
  | .ifCond c off => match S with
    | .inl x :: S => match c with
      | .eq => if x = 0 then z_jmp pc off (fun t => k t L S σ) else k nx L S σ
      | .ne => if x = 0 then k nx L S σ else z_jmp pc off (fun t => k t L S σ)
      | .lt => if x < 0 then z_jmp pc off (fun t => k t L S σ) else k nx L S σ
      | .ge => if x < 0 then k nx L S σ else z_jmp pc off (fun t => k t L S σ)
      | .gt => if 0 < x then z_jmp pc off (fun t => k t L S σ) else k nx L S σ
      | .le => if 0 < x then k nx L S σ else z_jmp pc off (fun t => k t L S σ)
    | _ => none
  | .if_icmp c off => match S with
    | .inl y :: .inl x :: S => match c with
      | .eq => if x = y then z_jmp pc off (fun t => k t L S σ) else k nx L S σ
      | .ne => if x = y then k nx L S σ else z_jmp pc off (fun t => k t L S σ)
      | .lt => if x < y then z_jmp pc off (fun t => k t L S σ) else k nx L S σ
      | .ge => if x < y then k nx L S σ else z_jmp pc off (fun t => k t L S σ)
      | .gt => if y < x then z_jmp pc off (fun t => k t L S σ) else k nx L S σ
      | .le => if y < x then k nx L S σ else z_jmp pc off (fun t => k t L S σ)
    | _ => none
  | .ifnull off => match S with | .inr (.inr x) :: S => z_g (!(x == 9)) (if x = 0 then z_jmp pc off (fun t => k t L S σ) else k nx L S σ) | _ => none
  | .ifnonnull off => match S with | .inr (.inr x) :: S => z_g (!(x == 9)) (if x = 0 then k nx L S σ else z_jmp pc off (fun t => k t L S σ)) | _ => none
  | .tableswitch dflt lo _ offs => match S with | .inl x :: S => z_sw1 x pc (fun t => k t L S σ) dflt lo offs.toList | _ => none
  | .getfield n => match d.1.1 n with
    | some (kd, sl, so, _) => match S with
      | .inr (.inr r) :: S => z_g (z_kd σ r == kd) (match so with
        | 2 => k nx L (vl (z_l σ r sl) :: S) σ
        | 3 => k nx L (vr (z_r σ r sl) :: S) σ
        | _ => k nx L (vi (z_i σ r sl) :: S) σ)
      | _ => none
    | none => none
  | .putfield n => match d.1.1 n with
    | some (kd, sl, so, _) => match so with
      | 2 => match S with | .inr (.inl x) :: .inr (.inr r) :: S => z_g (z_kd σ r == kd) (k nx L S (z_ul σ r sl x)) | _ => none
      | 3 => match S with | .inr (.inr x) :: .inr (.inr r) :: S => z_g (z_kd σ r == kd) (k nx L S (z_ur σ r sl x)) | _ => none
      | _ => match S with | .inl x :: .inr (.inr r) :: S => z_g (z_fit so x && (z_kd σ r == kd)) (k nx L S (z_ui σ r sl x)) | _ => none
    | none => none
  | .iaload => match S with | .inl i :: .inr (.inr a) :: S => z_g (z_at σ a 20 i) (k nx L (vi (z_i σ a i.toNatClampNeg) :: S) σ) | _ => none
  | .baload => match S with | .inl i :: .inr (.inr a) :: S => z_g (z_at σ a 21 i || z_at σ a 22 i) (k nx L (vi (z_i σ a i.toNatClampNeg) :: S) σ) | _ => none
  | .laload => match S with | .inl i :: .inr (.inr a) :: S => z_g (z_at σ a 23 i) (k nx L (vl (z_l σ a i.toNatClampNeg) :: S) σ) | _ => none
  | .aaload => match S with | .inl i :: .inr (.inr a) :: S => z_g (z_at σ a 24 i) (k nx L (vr (z_r σ a i.toNatClampNeg) :: S) σ) | _ => none
  | .iastore => match S with | .inl x :: .inl i :: .inr (.inr a) :: S => z_g (z_at σ a 20 i && Nat.ble 10 a) (k nx L S (z_ui σ a i.toNatClampNeg x)) | _ => none
  | .bastore => match S with | .inl x :: .inl i :: .inr (.inr a) :: S => z_g ((z_at σ a 21 i || z_at σ a 22 i) && Nat.ble 10 a) (k nx L S (z_ui σ a i.toNatClampNeg (z_bv σ a x))) | _ => none
  | .lastore => match S with | .inr (.inl x) :: .inl i :: .inr (.inr a) :: S => z_g (z_at σ a 23 i && Nat.ble 10 a) (k nx L S (z_ul σ a i.toNatClampNeg x)) | _ => none
  | .aastore => match S with | .inr (.inr x) :: .inl i :: .inr (.inr a) :: S => z_g (z_at σ a 24 i && Nat.ble 10 a && (x == 0 || z_kd σ x == 9)) (k nx L S (z_ur σ a i.toNatClampNeg x)) | _ => none
  | .arraylength => match S with | .inr (.inr a) :: S => z_g (Nat.ble 20 (z_kd σ a) && Nat.ble (z_kd σ a) 24) (k nx L (vi (nI (z_ln σ a)) :: S) σ) | _ => none
  | .newarray t => match S with | .inl n :: S => z_g (decide (0 ≤ n) && Nat.ble n.toNatClampNeg 100000 && Nat.ble 20 (z_arrK t)) (k nx L (vr (z_sz σ) :: S) (z_al σ (z_arrK t) n.toNatClampNeg n.toNatClampNeg)) | _ => none
  | .anewarray n => match d.1.2.2.2.2 n with
    | some (9, _) => match S with | .inl n :: S => z_g (decide (0 ≤ n) && Nat.ble n.toNatClampNeg 100000) (k nx L (vr (z_sz σ) :: S) (z_al σ 24 n.toNatClampNeg n.toNatClampNeg)) | _ => none
    | _ => none
  | .new n => match d.1.2.2.2.2 n with
    | some (kd, m) => k nx L (vr (z_sz σ) :: S) (z_al σ kd 0 m)
    | none => none
  | .checkcast n => match d.1.2.2.2.2 n with
    | some (20, _) => match S with | .inr (.inr r) :: S => z_g ((z_kd σ r == 20) && Nat.ble 10 r) (k nx L (vr r :: S) σ) | _ => none
    | _ => none
  | .invokestatic n => z_inv cl (d.1.2.1 n) nx L S σ k
  | .invokespecial n => z_inv cl (d.1.2.1 n) nx L S σ k
  | .invokevirtual n => z_inv cl (d.1.2.1 n) nx L S σ k
  | .ireturn => match S with | [.inl x] => z_g (z_fit d.2.2.2.1 x) (some (vi x, σ)) | _ => none
  | .lreturn => match S with | [.inr (.inl x)] => z_g (Nat.beq d.2.2.2.1 2) (some (vl x, σ)) | _ => none
  | .areturn => match S with | [.inr (.inr x)] => z_g (Nat.beq d.2.2.2.1 3) (some (vr x, σ)) | _ => none
  | .return_ => match S with | [] => z_g (Nat.beq d.2.2.2.1 4) (some (vi 0, σ)) | _ => none
  | _ => none
/-- where a step goes on: at a cut the way ends -/
def z_go (d : ZD) (back f : ZK) : ZK := fun pc L S σ => match d.2.2.1 pc with
  | some b => back pc (z_cut b L) S σ
  | none => f pc L S σ
noncomputable def z_seg (d : ZD) (cl : Nat → List ZV → ZM → ZR) (back : ZK) : Nat → ZK := fun n => Nat.rec (motive := fun _ => ZK) (fun _ _ _ _ => none) (fun _ f pc L S σ => match d.2.1 pc with
  | some (i, len) => z_step d cl i pc (pc + len) L S σ (z_go d back f)
  | none => none) n
noncomputable def z_run (d : ZD) (cl : Nat → List ZV → ZM → ZR) : Nat → ZK := fun n => Nat.rec (motive := fun _ => ZK) (fun _ _ _ _ => none) (fun _ f => z_seg d cl f 3000) n
theorem z_run_s (d : ZD) (cl : Nat → List ZV → ZM → ZR) (n : Nat) : z_run d cl (n + 1) = z_seg d cl (z_run d cl n) 3000 := rfl
theorem z_seg_s (d : ZD) (cl : Nat → List ZV → ZM → ZR) (back : ZK) (n pc : Nat) (L : ZL) (S : List ZV) (σ : ZM) : z_seg d cl back (n + 1) pc L S σ = match d.2.1 pc with
  | some (i, len) => z_step d cl i pc (pc + len) L S σ (z_go d back (z_seg d cl back n))
  | none => none := rfl
def z_ini (as : List ZV) (n : Nat) : ZL := match as, n with
  | [], 0 => []
  | [], n + 1 => none :: z_ini [] n
  | .inr (.inl x) :: as, n + 2 => some (vl x) :: none :: z_ini as n
  | v :: as, n + 1 => some v :: z_ini as n
  | _ :: _, 0 => []
def z_slots (as : List ZV) : Nat := z_cat as
/-- System.arraycopy of ints -/
def z_copy (as : List ZV) (σ : ZM) : ZR := match as with
  | [.inr (.inr a), .inl i, .inr (.inr b), .inl j, .inl n] => z_g ((z_kd σ a == 20) && (z_kd σ b == 20) && Nat.ble 10 a && Nat.ble 10 b && !(Nat.beq a b) && decide (0 ≤ i) && decide (0 ≤ j) && decide (0 ≤ n) && Nat.ble (i.toNatClampNeg + n.toNatClampNeg) (z_ln σ a) && Nat.ble (j.toNatClampNeg + n.toNatClampNeg) (z_ln σ b)) (some (vi 0, z_cp σ a i.toNatClampNeg b j.toNatClampNeg n.toNatClampNeg))
  | _ => none

/-- what a function of the way on does: it ends, or goes on at one place, or asks another first -/
def z_tl (F : ZK → ZR) : Prop := (∃ r, ∀ k, F k = r) ∨ ∃ pc L S σ, ∀ k, F k = k pc L S σ
theorem z_tl_no (r : ZR) : z_tl (fun _ => r) := Or.inl ⟨r, fun _ => rfl⟩
theorem z_tl_k (pc : Nat) (L : ZL) (S : List ZV) (σ : ZM) : z_tl (fun k => k pc L S σ) := Or.inr ⟨pc, L, S, σ, fun _ => rfl⟩
theorem z_tl_g (b : Bool) {F : ZK → ZR} (h : z_tl F) : z_tl (fun k => z_g b (F k)) := by
  cases b
  · exact z_tl_no none
  · exact h
theorem z_tl_j (pc : Nat) (off : Int) {F : Nat → ZK → ZR} (h : ∀ t, z_tl (F t)) : z_tl (fun k => z_jmp pc off (fun t => F t k)) := by
  unfold z_jmp
  cases (pc : Int) + off with
  | ofNat t => exact h t
  | negSucc _ => exact z_tl_no none
theorem z_tl_if (c : Prop) [Decidable c] {F G : ZK → ZR} (h : z_tl F) (h2 : z_tl G) : z_tl (fun k => if c then F k else G k) := by
  by_cases hc : c
  · simp only [hc, if_true]; exact h
  · simp only [hc, if_false]; exact h2
theorem z_tl_sw (x : Int32) (pc : Nat) (dflt : Int) {F : Nat → ZK → ZR} (h : ∀ t, z_tl (F t)) : ∀ (os : List Int) (lo : Int), z_tl (fun k => z_sw1 x pc (fun t => F t k) dflt lo os)
  | [], _ => z_tl_j pc dflt h
  | o :: os, lo => z_tl_if _ (z_tl_j pc o h) (z_tl_sw x pc dflt h os (lo + 1))
theorem z_tl_bI (x : ZR) {F : Int32 → ZM → ZK → ZR} (h : ∀ v σ, z_tl (F v σ)) : z_tl (fun k => z_bI x (fun v σ => F v σ k)) := by
  unfold z_bI
  split
  · exact h _ _
  · exact z_tl_no none
theorem z_tl_bL (x : ZR) {F : Int64 → ZM → ZK → ZR} (h : ∀ v σ, z_tl (F v σ)) : z_tl (fun k => z_bL x (fun v σ => F v σ k)) := by
  unfold z_bL
  split
  · exact h _ _
  · exact z_tl_no none
theorem z_tl_bR (x : ZR) {F : Nat → ZM → ZK → ZR} (h : ∀ v σ, z_tl (F v σ)) : z_tl (fun k => z_bR x (fun v σ => F v σ k)) := by
  unfold z_bR
  split
  · exact h _ _
  · exact z_tl_no none
theorem z_tl_bV (x : ZR) {F : ZM → ZK → ZR} (h : ∀ σ, z_tl (F σ)) : z_tl (fun k => z_bV x (fun σ => F σ k)) := by
  unfold z_bV
  split
  · exact h _
  · exact z_tl_no none
theorem z_tl_inv (cl : Nat → List ZV → ZM → ZR) (mt : Option (Nat × Nat × Nat × Nat)) (nx : Nat) (L : ZL) (S : List ZV) (σ : ZM) : z_tl (fun k => z_inv cl mt nx L S σ k) := by
  unfold z_inv
  split
  · exact z_tl_no none
  · split
    · exact z_tl_no none
    · refine z_tl_g _ ?_
      split
      · exact z_tl_bL _ (fun v τ => z_tl_k _ _ _ _)
      · exact z_tl_bR _ (fun v τ => z_tl_k _ _ _ _)
      · exact z_tl_bV _ (fun τ => z_tl_k _ _ _ _)
      · exact z_tl_bI _ (fun v τ => z_tl_k _ _ _ _)
set_option maxHeartbeats 4000000 in
theorem z_tl_step (d : ZD) (cl : Nat → List ZV → ZM → ZR) (i : Instr) (pc nx : Nat) (L : ZL) (S : List ZV) (σ : ZM) : z_tl (fun k => z_step d cl i pc nx L S σ k) := by
  unfold z_step
  cases i <;> dsimp only <;> (repeat' split) <;> first
    | exact z_tl_no _
    | exact z_tl_k _ _ _ _
    | exact z_tl_g _ (z_tl_k _ _ _ _)
    | exact z_tl_inv _ _ _ _ _ _
    | exact z_tl_j _ _ (fun _ => z_tl_k _ _ _ _)
    | exact z_tl_sw _ _ _ (fun _ => z_tl_k _ _ _ _) _ _
    | exact z_tl_if _ (z_tl_j _ _ (fun _ => z_tl_k _ _ _ _)) (z_tl_k _ _ _ _)
    | exact z_tl_if _ (z_tl_k _ _ _ _) (z_tl_j _ _ (fun _ => z_tl_k _ _ _ _))
    | exact z_tl_g _ (z_tl_no _)
    | exact z_tl_g _ (z_tl_j _ _ (fun _ => z_tl_k _ _ _ _))
/-- the same of a way from cut to cut -/
theorem z_tl_seg (d : ZD) (cl : Nat → List ZV → ZM → ZR) : ∀ (n pc : Nat) (L : ZL) (S : List ZV) (σ : ZM), z_tl (fun back => z_seg d cl back n pc L S σ)
  | 0, _, _, _, _ => z_tl_no none
  | n + 1, pc, L, S, σ => by
    simp only [z_seg_s]
    cases hc : d.2.1 pc with
    | none => exact z_tl_no none
    | some q =>
      obtain ⟨i, len⟩ := q
      dsimp only
      rcases z_tl_step d cl i pc (pc + len) L S σ with ⟨r, h⟩ | ⟨pc', L', S', σ', h⟩
      · simp only [h]
        exact z_tl_no r
      · simp only [h]
        unfold z_go
        cases hb : d.2.2.1 pc' with
        | none => exact z_tl_seg d cl n pc' L' S' σ'
        | some b => exact z_tl_k _ _ _ _
theorem z_run_up (d : ZD) (cl : Nat → List ZV → ZM → ZR) : ∀ (n pc : Nat) (L : ZL) (S : List ZV) (σ : ZM) (r : ZV × ZM), z_run d cl n pc L S σ = some r → z_run d cl (n + 1) pc L S σ = some r
  | 0, _, _, _, _, _, h => by cases h
  | n + 1, pc, L, S, σ, r, h => by
    rw [z_run_s] at h ⊢
    rcases z_tl_seg d cl 3000 pc L S σ with ⟨r0, h0⟩ | ⟨pc', L', S', σ', h0⟩
    · dsimp only at h0; rw [h0] at h ⊢; exact h
    · dsimp only at h0; rw [h0] at h ⊢; exact z_run_up d cl n pc' L' S' σ' r h
theorem z_run_le (d : ZD) (cl : Nat → List ZV → ZM → ZR) {n : Nat} (k : Nat) {pc : Nat} {L : ZL} {S : List ZV} {σ : ZM} {r : ZV × ZM} (h : z_run d cl n pc L S σ = some r) : z_run d cl (n + k) pc L S σ = some r := by
  induction k with
  | zero => exact h
  | succ k ih => exact z_run_up d cl (n + k) pc L S σ r ih
/-- the method from here on, however many cuts it passes -/
noncomputable def z_w (d : ZD) (cl : Nat → List ZV → ZM → ZR) : ZK := fun pc L S σ => @dite _ (∃ n r, z_run d cl n pc L S σ = some r) (Classical.propDecidable _) (fun h => z_run d cl (Classical.choose h) pc L S σ) (fun _ => none)
theorem z_w_some {d : ZD} {cl : Nat → List ZV → ZM → ZR} {pc : Nat} {L : ZL} {S : List ZV} {σ : ZM} {r : ZV × ZM} : z_w d cl pc L S σ = some r ↔ ∃ n, z_run d cl n pc L S σ = some r := by
  unfold z_w
  split
  · rename_i h
    obtain ⟨r1, h1⟩ := Classical.choose_spec h
    constructor
    · intro h2; exact ⟨_, h2⟩
    · rintro ⟨n, h2⟩
      have a := z_run_le d cl n h1
      have b := z_run_le d cl (Classical.choose h) h2
      rw [Nat.add_comm] at b
      rw [a] at b
      rw [h1]; exact b
  · rename_i h
    constructor
    · intro h2; cases h2
    · rintro ⟨n, h2⟩; exact absurd ⟨n, r, h2⟩ h
theorem z_w_eq (d : ZD) (cl : Nat → List ZV → ZM → ZR) (pc : Nat) (L : ZL) (S : List ZV) (σ : ZM) : z_w d cl pc L S σ = z_seg d cl (z_w d cl) 3000 pc L S σ := by
  have key : ∀ r, z_w d cl pc L S σ = some r ↔ z_seg d cl (z_w d cl) 3000 pc L S σ = some r := by
    intro r
    rw [z_w_some]
    rcases z_tl_seg d cl 3000 pc L S σ with ⟨r0, h0⟩ | ⟨pc', L', S', σ', h0⟩
    · dsimp only at h0
      rw [h0]
      constructor
      · rintro ⟨n, h⟩
        cases n with
        | zero => cases h
        | succ n => rw [z_run_s, h0] at h; exact h
      · intro h; exact ⟨1, by rw [z_run_s, h0]; exact h⟩
    · dsimp only at h0
      rw [h0, z_w_some]
      constructor
      · rintro ⟨n, h⟩
        cases n with
        | zero => cases h
        | succ n => rw [z_run_s, h0] at h; exact ⟨n, h⟩
      · rintro ⟨n, h⟩; exact ⟨n + 1, by rw [z_run_s, h0]; exact h⟩
  cases h : z_seg d cl (z_w d cl) 3000 pc L S σ with
  | some r => exact (key r).mpr h
  | none =>
    cases h2 : z_w d cl pc L S σ with
    | none => rfl
    | some r => rw [(key r).mp h2] at h; cases h
/-- Object.clone of ints -/
def z_cn (σ : ZM) (a : Nat) : ZM := ((z_al σ 20 (z_ln σ a) (z_ln σ a)).1, (fun b j => if b = z_sz σ then σ.2.1 a j else σ.2.1 b j), (z_al σ 20 (z_ln σ a) (z_ln σ a)).2.2)
def z_clone (as : List ZV) (σ : ZM) : ZR := match as with
  | [.inr (.inr a)] => z_g ((z_kd σ a == 20) && Nat.ble 10 a) (some (vr (z_sz σ), z_cn σ a))
  | _ => none

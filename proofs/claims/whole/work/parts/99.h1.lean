/-! THE PURE PART, 120: what the constructors do to the memory, as a list of deeds -/
abbrev ZO : Type := Nat × Nat × Nat × Int
def c_op (σ : ZM) (o : ZO) : ZM := match o with
  | (0, kd, len, n) => z_al σ kd len n.toNat
  | (1, r, k, x) => z_ui σ r k (iI x)
  | (_, r, k, x) => z_ur σ r k x.toNat
def c_do : List ZO → ZM → ZM
  | [], σ => σ
  | o :: os, σ => c_do os (c_op σ o)
theorem c_do_app : ∀ (a b : List ZO) (σ : ZM), c_do (a ++ b) σ = c_do b (c_do a σ)
  | [], _, _ => rfl
  | o :: a, b, σ => c_do_app a b (c_op σ o)
def c_na1 (o : ZO) : Nat := match o with
  | (0, _) => 1
  | _ => 0
def c_na : List ZO → Nat
  | [] => 0
  | o :: os => c_na1 o + c_na os
def c_ns : List ZO → Nat
  | [] => 0
  | (0, _, _, n) :: os => n.toNat + c_ns os
  | _ :: os => c_ns os
theorem c_op_sz (σ : ZM) : ∀ o : ZO, z_sz (c_op σ o) = z_sz σ + c_na1 o
  | (0, _, _, _) => rfl
  | (1, _, _, _) => rfl
  | (n + 2, _, _, _) => rfl
theorem c_do_sz : ∀ (os : List ZO) (σ : ZM), z_sz (c_do os σ) = z_sz σ + c_na os
  | [], _ => rfl
  | o :: os, σ => by
    show z_sz (c_do os (c_op σ o)) = z_sz σ + (c_na1 o + c_na os)
    rw [c_do_sz os, c_op_sz]; omega
theorem c_do_sw : ∀ (os : List ZO) (σ : ZM), z_sw (c_do os σ) = z_sw σ + c_ns os
  | [], _ => rfl
  | (0, kd, len, n) :: os, σ => by
    show z_sw (c_do os (z_al σ kd len n.toNat)) = z_sw σ + (n.toNat + c_ns os)
    rw [c_do_sw os]
    show z_sw σ + n.toNat + c_ns os = _
    omega
  | (1, r, k, x) :: os, σ => c_do_sw os (z_ui σ r k (iI x))
  | (n + 2, r, k, x) :: os, σ => c_do_sw os (z_ur σ r k x.toNat)
def c_k : List ZO → Nat → Nat → Option (Nat × Nat)
  | [], _, _ => none
  | (0, kd, len, _) :: os, n, a => match c_k os (n + 1) a with
    | some q => some q
    | none => cond (Nat.beq a n) (some (kd, len)) none
  | _ :: os, n, a => c_k os n a
def c_i : List ZO → Nat → Nat → Nat → Option Int
  | [], _, _, _ => none
  | (0, _) :: os, n, a, j => match c_i os (n + 1) a j with
    | some q => some q
    | none => cond (Nat.beq a n) (some 0) none
  | (1, r, k, x) :: os, n, a, j => match c_i os n a j with
    | some q => some q
    | none => cond (Nat.beq a r && Nat.beq j k) (some x) none
  | _ :: os, n, a, j => c_i os n a j
def c_r : List ZO → Nat → Nat → Nat → Option Nat
  | [], _, _, _ => none
  | (0, _) :: os, n, a, j => match c_r os (n + 1) a j with
    | some q => some q
    | none => cond (Nat.beq a n) (some 0) none
  | (1, _) :: os, n, a, j => c_r os n a j
  | (_, r, k, x) :: os, n, a, j => match c_r os n a j with
    | some q => some q
    | none => cond (Nat.beq a r && Nat.beq j k) (some x.toNat) none
theorem n_beq {a b : Nat} : Nat.beq a b = decide (a = b) := by
  cases h : Nat.beq a b with
  | true => rw [decide_eq_true (Nat.eq_of_beq_eq_true h)]
  | false => rw [decide_eq_false (fun e => by rw [e, Nat.beq_refl] at h; cases h)]
theorem c_do_k : ∀ (os : List ZO) (σ : ZM) (a : Nat), (c_do os σ).1 a = (c_k os (z_sz σ) a).getD (σ.1 a)
  | [], _, _ => rfl
  | (0, kd, len, n) :: os, σ, a => by
    show (c_do os (z_al σ kd len n.toNat)).1 a = (match c_k os (z_sz σ + 1) a with | some q => some q | none => cond (Nat.beq a (z_sz σ)) (some (kd, len)) none).getD (σ.1 a)
    rw [c_do_k os]
    show (c_k os (z_sz σ + 1) a).getD (if a = z_sz σ then (kd, len) else σ.1 a) = _
    cases c_k os (z_sz σ + 1) a with
    | some q => rfl
    | none =>
      show (if a = z_sz σ then (kd, len) else σ.1 a) = _
      rw [n_beq]
      by_cases e : a = z_sz σ
      · rw [if_pos e, decide_eq_true e]; rfl
      · rw [if_neg e, decide_eq_false e]; rfl
  | (1, r, k, x) :: os, σ, a => c_do_k os (z_ui σ r k (iI x)) a
  | (n + 2, r, k, x) :: os, σ, a => c_do_k os (z_ur σ r k x.toNat) a
theorem c_do_i : ∀ (os : List ZO) (σ : ZM) (a j : Nat), (c_do os σ).2.1 a j = ((c_i os (z_sz σ) a j).map iI).getD (σ.2.1 a j)
  | [], _, _, _ => rfl
  | (0, kd, len, n) :: os, σ, a, j => by
    show (c_do os (z_al σ kd len n.toNat)).2.1 a j = ((match c_i os (z_sz σ + 1) a j with | some q => some q | none => cond (Nat.beq a (z_sz σ)) (some 0) none).map iI).getD (σ.2.1 a j)
    rw [c_do_i os]
    show ((c_i os (z_sz σ + 1) a j).map iI).getD (if a = z_sz σ then 0 else σ.2.1 a j) = _
    cases c_i os (z_sz σ + 1) a j with
    | some q => rfl
    | none =>
      show (if a = z_sz σ then 0 else σ.2.1 a j) = _
      rw [n_beq]
      by_cases e : a = z_sz σ
      · rw [if_pos e, decide_eq_true e]; rfl
      · rw [if_neg e, decide_eq_false e]; rfl
  | (1, r, k, x) :: os, σ, a, j => by
    show (c_do os (z_ui σ r k (iI x))).2.1 a j = ((match c_i os (z_sz σ) a j with | some q => some q | none => cond (Nat.beq a r && Nat.beq j k) (some x) none).map iI).getD (σ.2.1 a j)
    rw [c_do_i os]
    show ((c_i os (z_sz σ) a j).map iI).getD (if a = r ∧ j = k then iI x else σ.2.1 a j) = _
    cases c_i os (z_sz σ) a j with
    | some q => rfl
    | none =>
      show (if a = r ∧ j = k then iI x else σ.2.1 a j) = _
      rw [n_beq, n_beq]
      by_cases e : a = r ∧ j = k
      · rw [if_pos e, decide_eq_true e.1, decide_eq_true e.2]; rfl
      · rw [if_neg e]
        by_cases e1 : a = r
        · rw [decide_eq_false (fun q => e ⟨e1, q⟩), Bool.and_false]; rfl
        · rw [decide_eq_false e1, Bool.false_and]; rfl
  | (n + 2, r, k, x) :: os, σ, a, j => c_do_i os (z_ur σ r k x.toNat) a j
theorem c_do_r : ∀ (os : List ZO) (σ : ZM) (a j : Nat), (c_do os σ).2.2.2.1 a j = (c_r os (z_sz σ) a j).getD (σ.2.2.2.1 a j)
  | [], _, _, _ => rfl
  | (0, kd, len, n) :: os, σ, a, j => by
    show (c_do os (z_al σ kd len n.toNat)).2.2.2.1 a j = (match c_r os (z_sz σ + 1) a j with | some q => some q | none => cond (Nat.beq a (z_sz σ)) (some 0) none).getD (σ.2.2.2.1 a j)
    rw [c_do_r os]
    show (c_r os (z_sz σ + 1) a j).getD (if a = z_sz σ then 0 else σ.2.2.2.1 a j) = _
    cases c_r os (z_sz σ + 1) a j with
    | some q => rfl
    | none =>
      show (if a = z_sz σ then 0 else σ.2.2.2.1 a j) = _
      rw [n_beq]
      by_cases e : a = z_sz σ
      · rw [if_pos e, decide_eq_true e]; rfl
      · rw [if_neg e, decide_eq_false e]; rfl
  | (1, r, k, x) :: os, σ, a, j => c_do_r os (z_ui σ r k (iI x)) a j
  | (n + 2, r, k, x) :: os, σ, a, j => by
    show (c_do os (z_ur σ r k x.toNat)).2.2.2.1 a j = (match c_r os (z_sz σ) a j with | some q => some q | none => cond (Nat.beq a r && Nat.beq j k) (some x.toNat) none).getD (σ.2.2.2.1 a j)
    rw [c_do_r os]
    show (c_r os (z_sz σ) a j).getD (if a = r ∧ j = k then x.toNat else σ.2.2.2.1 a j) = _
    cases c_r os (z_sz σ) a j with
    | some q => rfl
    | none =>
      show (if a = r ∧ j = k then x.toNat else σ.2.2.2.1 a j) = _
      rw [n_beq, n_beq]
      by_cases e : a = r ∧ j = k
      · rw [if_pos e, decide_eq_true e.1, decide_eq_true e.2]; rfl
      · rw [if_neg e]
        by_cases e1 : a = r
        · rw [decide_eq_false (fun q => e ⟨e1, q⟩), Bool.and_false]; rfl
        · rw [decide_eq_false e1, Bool.false_and]; rfl
/-- cells that were there keep their kinds; rows of references that no deed names are kept -/
theorem c_kd_do : ∀ (os : List ZO) (σ : ZM) {a : Nat}, a < z_sz σ → (c_do os σ).1 a = σ.1 a
  | [], _, _, _ => rfl
  | (0, kd, len, n) :: os, σ, a, h => by
    show (c_do os (z_al σ kd len n.toNat)).1 a = _
    rw [c_kd_do os _ (show a < z_sz σ + 1 by omega)]
    exact if_neg (by omega)
  | (1, r, k, x) :: os, σ, a, h => c_kd_do os (z_ui σ r k (iI x)) h
  | (n + 2, r, k, x) :: os, σ, a, h => c_kd_do os (z_ur σ r k x.toNat) h
def c_nr (a : Nat) : List ZO → Bool
  | [] => true
  | (0, _) :: os => c_nr a os
  | (1, _) :: os => c_nr a os
  | (_, r, _) :: os => !(Nat.beq a r) && c_nr a os
theorem c_r_do : ∀ (os : List ZO) (σ : ZM) {a : Nat} (k : Nat), a < z_sz σ → c_nr a os = true → (c_do os σ).2.2.2.1 a k = σ.2.2.2.1 a k
  | [], _, _, _, _, _ => rfl
  | (0, kd, len, n) :: os, σ, a, j, h, h2 => by
    show (c_do os (z_al σ kd len n.toNat)).2.2.2.1 a j = _
    rw [c_r_do os _ j (show a < z_sz σ + 1 by omega) h2]
    exact if_neg (by omega)
  | (1, r, k, x) :: os, σ, a, j, h, h2 => c_r_do os (z_ui σ r k (iI x)) j h h2
  | (n + 2, r, k, x) :: os, σ, a, j, h, h2 => by
    have h3 : (!(Nat.beq a r) && c_nr a os) = true := h2
    rw [Bool.and_eq_true] at h3
    show (c_do os (z_ur σ r k x.toNat)).2.2.2.1 a j = _
    rw [c_r_do os (z_ur σ r k x.toNat) j h h3.2]
    refine if_neg (fun e => ?_)
    rw [e.1, Nat.beq_refl] at h3
    exact absurd h3.1 (by decide)
theorem zk_do {os : List ZO} {σ : ZM} {a : Nat} (h : a < z_sz σ) : z_kd (c_do os σ) a = z_kd σ a := by show ((c_do os σ).1 a).1 = _; rw [c_kd_do os σ h]; rfl
theorem zr_do {os : List ZO} {σ : ZM} {a k : Nat} (h : a < z_sz σ) (h2 : c_nr a os = true) : z_r (c_do os σ) a k = z_r σ a k := c_r_do os σ k h h2
theorem zk_ui (σ : ZM) (r k : Nat) (x : Int32) (a : Nat) : z_kd (z_ui σ r k x) a = z_kd σ a := rfl
theorem zk_ur (σ : ZM) (r k x : Nat) (a : Nat) : z_kd (z_ur σ r k x) a = z_kd σ a := rfl
theorem zk_al {σ : ZM} {kd len n a : Nat} (h : a < z_sz σ) : z_kd (z_al σ kd len n) a = z_kd σ a := by show (if a = z_sz σ then (kd, len) else σ.1 a).1 = _; rw [if_neg (by omega)]; rfl
theorem zk_an {σ : ZM} {kd len n a : Nat} (h : z_sz σ = a) : z_kd (z_al σ kd len n) a = kd := by show (if a = z_sz σ then (kd, len) else σ.1 a).1 = _; rw [if_pos h.symm]
theorem zl_ui (σ : ZM) (r k : Nat) (x : Int32) (a : Nat) : z_ln (z_ui σ r k x) a = z_ln σ a := rfl
theorem zl_ur (σ : ZM) (r k x : Nat) (a : Nat) : z_ln (z_ur σ r k x) a = z_ln σ a := rfl
theorem zl_al {σ : ZM} {kd len n a : Nat} (h : a < z_sz σ) : z_ln (z_al σ kd len n) a = z_ln σ a := by show (if a = z_sz σ then (kd, len) else σ.1 a).2 = _; rw [if_neg (by omega)]; rfl
theorem zl_an {σ : ZM} {kd len n a : Nat} (h : z_sz σ = a) : z_ln (z_al σ kd len n) a = len := by show (if a = z_sz σ then (kd, len) else σ.1 a).2 = _; rw [if_pos h.symm]
theorem zs_ui (σ : ZM) (r k : Nat) (x : Int32) : z_sz (z_ui σ r k x) = z_sz σ := rfl
theorem zs_ur (σ : ZM) (r k x : Nat) : z_sz (z_ur σ r k x) = z_sz σ := rfl
theorem zs_al (σ : ZM) (kd len n : Nat) : z_sz (z_al σ kd len n) = z_sz σ + 1 := rfl
theorem zr_ui (σ : ZM) (r k : Nat) (x : Int32) (a j : Nat) : z_r (z_ui σ r k x) a j = z_r σ a j := rfl
theorem zr_uh (σ : ZM) (r k x : Nat) : z_r (z_ur σ r k x) r k = x := if_pos ⟨rfl, rfl⟩
theorem zr_un (σ : ZM) {r k : Nat} (x : Nat) {a j : Nat} (h : a ≠ r ∨ j ≠ k) : z_r (z_ur σ r k x) a j = z_r σ a j := if_neg (fun e => by rcases h with h | h; exact h e.1; exact h e.2)
theorem zr_al {σ : ZM} {kd len n a j : Nat} (h : a < z_sz σ) : z_r (z_al σ kd len n) a j = z_r σ a j := if_neg (by omega)
theorem zc_obj (d : Nat) {r : Nat} (σ : ZM) (h : r ≠ 0 ∧ r ≠ 9) : z_call (d + 1) 0 [vr r] σ = some (vi 0, σ) := p_obj d r σ h
theorem iI_m1 : (-1 : Int32) = iI (-1) := rfl

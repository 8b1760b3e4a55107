/-! the small machine's memory beside the heap -/
def z_o (base r : Nat) : Option Nat := if r = 0 then none else some (base + (r - 10))
def z_A (base : Nat) (o : Nat → Value) (r : Nat) : Value := if r = 0 then .null else if r < 10 then o r else .ref (base + (r - 10))
def z_cv (A : Nat → Value) (v : ZV) : Value := match v with
  | .inl x => .int x
  | .inr (.inl x) => .long x
  | .inr (.inr r) => A r
def z_sd (d : String) : Nat := if d = "I" then 0 else if d = "Z" then 1 else if d = "J" then 2 else if d = "B" then 6 else 3
def z_so (i k : Nat) : Nat := z_sd (z_T i k).2.2.1
def z_fv (A : Nat → Value) (σ : ZM) (r k so : Nat) : Value := match so with
  | 2 => .long (z_l σ r k)
  | 3 => A (z_r σ r k)
  | _ => .int (z_i σ r k)
def z_fs (A : Nat → Value) (σ : ZM) (r i : Nat) : List Value := (List.range (z_nf i)).map (fun k => z_fv A σ r k (z_so i k))
def z_cell (cA : Nat → ClassId) (A : Nat → Value) (base : Nat) (σ : ZM) (r : Nat) : va_E := match z_kd σ r with
  | 20 => .inl (cA 0, z_ln σ r, .inl (z_i σ r))
  | 21 => .inl (cA 1, z_ln σ r, .inl (z_i σ r))
  | 22 => .inl (cA 2, z_ln σ r, .inl (z_i σ r))
  | 23 => .inl (cA 3, z_ln σ r, .inr (.inl (z_l σ r)))
  | 24 => .inl (cA 4, z_ln σ r, .inr (.inr (.inr (.inr (fun j => z_o base (z_r σ r j))))))
  | k => .inr (k - 1, z_fs A σ r (k - 1))
def z_ws (cA : Nat → ClassId) (A : Nat → Value) (base : Nat) (σ : ZM) : va_W := (List.range (z_sz σ - 10)).map (fun i => (base + i, z_cell cA A base σ (10 + i)))
abbrev z_Te : FieldType := .object "BreatheAsOne$Text"
abbrev z_tys (cA : Nat → ClassId) : List (ClassId × FieldType) := [(cA 0, .int), (cA 1, .byte), (cA 2, .boolean), (cA 3, .long), (cA 4, z_Te)]
/-- pure facts: cells 0 .. 9 are as in O -/
def z_pu (O σ : ZM) : Prop := 10 ≤ z_sz σ ∧ (∀ r, z_kd σ r ≠ 0 → r < z_sz σ) ∧ (∀ r, r < 10 → z_kd σ r = z_kd O r ∧ z_ln σ r = z_ln O r ∧ ∀ k, z_i σ r k = z_i O r k ∧ z_r σ r k = z_r O r k) ∧ (∀ r, 10 ≤ r → z_kd σ r ≠ 13) ∧ (∀ r j, z_kd σ r = 24 → z_r σ r j = 0 ∨ 10 ≤ z_r σ r j)
/-- the kinds of the old cells -/
def z_pO (O : ZM) : Prop := ∀ r, r < 10 → z_kd O r = 0 ∨ z_kd O r = 20 ∨ z_kd O r = 21 ∨ z_kd O r = 13
section ZWS
variable {cA : Nat → ClassId} {A : Nat → Value} {base : Nat} {σ : ZM}
theorem z_ws_at {r : Nat} (h : 10 ≤ r) (h2 : r < z_sz σ) : (z_ws cA A base σ)[r - 10]? = some (base + (r - 10), z_cell cA A base σ r) := by
  unfold z_ws
  rw [List.getElem?_map, List.getElem?_range (by omega)]
  simp only [Option.map_some]
  rw [show 10 + (r - 10) = r by omega]
theorem z_ws_len : (z_ws cA A base σ).length = z_sz σ - 10 := by simp [z_ws]
theorem z_ws_get {i : Nat} {q : Nat × va_E} (h : (z_ws cA A base σ)[i]? = some q) : i < z_sz σ - 10 ∧ q = (base + i, z_cell cA A base σ (10 + i)) := by
  have hl : i < z_sz σ - 10 := by
    have := (List.getElem?_eq_some_iff.mp h).1
    rwa [z_ws_len] at this
  refine ⟨hl, ?_⟩
  unfold z_ws at h
  rw [List.getElem?_map, List.getElem?_range hl] at h
  exact (Option.some.inj h).symm
theorem z_ws_D {B : Nat → Prop} (hB : ∀ q, base ≤ q → B q) : va_D B (z_ws cA A base σ) := by
  refine ⟨fun i j p q hi hj e => ?_, fun k q hk => ?_⟩
  · obtain ⟨-, rfl⟩ := z_ws_get hi
    obtain ⟨-, rfl⟩ := z_ws_get hj
    have e' : base + i = base + j := e
    omega
  · obtain ⟨-, rfl⟩ := z_ws_get hk
    exact hB _ (Nat.le_add_right _ _)
/-- a memory that differs in one cell -/
theorem z_ws_set {τ : ZM} {r : Nat} (h : 10 ≤ r) (hs : z_sz τ = z_sz σ) (ho : ∀ q, q ≠ r → z_cell cA A base τ q = z_cell cA A base σ q) : (z_ws cA A base σ).set (r - 10) (base + (r - 10), z_cell cA A base τ r) = z_ws cA A base τ := by
  apply List.ext_getElem?
  intro i
  by_cases hl : i < z_sz σ - 10
  · rw [List.getElem?_set]
    have e1 : (z_ws cA A base σ)[i]? = some (base + i, z_cell cA A base σ (10 + i)) := by
      unfold z_ws
      rw [List.getElem?_map, List.getElem?_range hl]; rfl
    have e2 : (z_ws cA A base τ)[i]? = some (base + i, z_cell cA A base τ (10 + i)) := by
      unfold z_ws
      rw [List.getElem?_map, List.getElem?_range (by omega)]; rfl
    rw [e1, e2]
    by_cases hi : r - 10 = i
    · subst hi
      rw [if_pos rfl, if_pos (by rw [z_ws_len]; exact hl), show 10 + (r - 10) = r by omega]
    · rw [if_neg hi, ho (10 + i) (by omega)]
  · rw [List.getElem?_eq_none (by rw [List.length_set, z_ws_len]; omega), List.getElem?_eq_none (by rw [z_ws_len]; omega)]
/-- a memory with one more cell -/
theorem z_ws_add {τ : ZM} (h : 10 ≤ z_sz σ) (hs : z_sz τ = z_sz σ + 1) (ho : ∀ q, q < z_sz σ → z_cell cA A base τ q = z_cell cA A base σ q) : z_ws cA A base σ ++ [(base + (z_sz σ - 10), z_cell cA A base τ (z_sz σ))] = z_ws cA A base τ := by
  apply List.ext_getElem?
  intro i
  by_cases hl : i < z_sz σ - 10
  · rw [List.getElem?_append_left (by rw [z_ws_len]; exact hl)]
    have e1 : (z_ws cA A base σ)[i]? = some (base + i, z_cell cA A base σ (10 + i)) := by
      unfold z_ws
      rw [List.getElem?_map, List.getElem?_range hl]; rfl
    have e2 : (z_ws cA A base τ)[i]? = some (base + i, z_cell cA A base τ (10 + i)) := by
      unfold z_ws
      rw [List.getElem?_map, List.getElem?_range (by omega)]; rfl
    rw [e1, e2, ho (10 + i) (by omega)]
  · rw [List.getElem?_append_right (by rw [z_ws_len]; omega), z_ws_len]
    by_cases hi : i = z_sz σ - 10
    · subst hi
      have e2 : (z_ws cA A base τ)[z_sz σ - 10]? = some (base + (z_sz σ - 10), z_cell cA A base τ (10 + (z_sz σ - 10))) := by
        unfold z_ws
        rw [List.getElem?_map, List.getElem?_range (by omega)]; rfl
      rw [e2, Nat.sub_self, show 10 + (z_sz σ - 10) = z_sz σ by omega]
      rfl
    · rw [List.getElem?_eq_none (by simp only [List.length_cons, List.length_nil]; omega), List.getElem?_eq_none (by rw [z_ws_len]; omega)]
end ZWS
/-! reads behind writes -/
section ZRW
variable (σ : ZM) (r k a j : Nat)
theorem z_kd_ui (x : Int32) : z_kd (z_ui σ r k x) a = z_kd σ a := rfl
theorem z_kd_ul (x : Int64) : z_kd (z_ul σ r k x) a = z_kd σ a := rfl
theorem z_kd_ur (x : Nat) : z_kd (z_ur σ r k x) a = z_kd σ a := rfl
theorem z_ln_ui (x : Int32) : z_ln (z_ui σ r k x) a = z_ln σ a := rfl
theorem z_ln_ul (x : Int64) : z_ln (z_ul σ r k x) a = z_ln σ a := rfl
theorem z_ln_ur (x : Nat) : z_ln (z_ur σ r k x) a = z_ln σ a := rfl
theorem z_sz_ui (x : Int32) : z_sz (z_ui σ r k x) = z_sz σ := rfl
theorem z_sz_ul (x : Int64) : z_sz (z_ul σ r k x) = z_sz σ := rfl
theorem z_sz_ur (x : Nat) : z_sz (z_ur σ r k x) = z_sz σ := rfl
theorem z_sw_ui (x : Int32) : z_sw (z_ui σ r k x) = z_sw σ := rfl
theorem z_sw_ul (x : Int64) : z_sw (z_ul σ r k x) = z_sw σ := rfl
theorem z_sw_ur (x : Nat) : z_sw (z_ur σ r k x) = z_sw σ := rfl
theorem z_i_ui (x : Int32) : z_i (z_ui σ r k x) a j = if a = r ∧ j = k then x else z_i σ a j := rfl
theorem z_i_ul (x : Int64) : z_i (z_ul σ r k x) a j = z_i σ a j := rfl
theorem z_i_ur (x : Nat) : z_i (z_ur σ r k x) a j = z_i σ a j := rfl
theorem z_l_ui (x : Int32) : z_l (z_ui σ r k x) a j = z_l σ a j := rfl
theorem z_l_ul (x : Int64) : z_l (z_ul σ r k x) a j = if a = r ∧ j = k then x else z_l σ a j := rfl
theorem z_l_ur (x : Nat) : z_l (z_ur σ r k x) a j = z_l σ a j := rfl
theorem z_r_ui (x : Int32) : z_r (z_ui σ r k x) a j = z_r σ a j := rfl
theorem z_r_ul (x : Int64) : z_r (z_ul σ r k x) a j = z_r σ a j := rfl
theorem z_r_ur (x : Nat) : z_r (z_ur σ r k x) a j = if a = r ∧ j = k then x else z_r σ a j := rfl
theorem z_kd_al (kd n w : Nat) : z_kd (z_al σ kd n w) a = if a = z_sz σ then kd else z_kd σ a := by
  unfold z_kd z_al; dsimp only; split <;> rfl
theorem z_ln_al (kd n w : Nat) : z_ln (z_al σ kd n w) a = if a = z_sz σ then n else z_ln σ a := by
  unfold z_ln z_al; dsimp only; split <;> rfl
theorem z_sz_al (kd n w : Nat) : z_sz (z_al σ kd n w) = z_sz σ + 1 := rfl
theorem z_sw_al (kd n w : Nat) : z_sw (z_al σ kd n w) = z_sw σ + w := rfl
theorem z_i_al (kd n w : Nat) : z_i (z_al σ kd n w) a j = if a = z_sz σ then 0 else z_i σ a j := rfl
theorem z_l_al (kd n w : Nat) : z_l (z_al σ kd n w) a j = if a = z_sz σ then 0 else z_l σ a j := rfl
theorem z_r_al (kd n w : Nat) : z_r (z_al σ kd n w) a j = if a = z_sz σ then 0 else z_r σ a j := rfl
theorem z_kd_cp (s sp d dp n : Nat) : z_kd (z_cp σ s sp d dp n) a = z_kd σ a := rfl
theorem z_ln_cp (s sp d dp n : Nat) : z_ln (z_cp σ s sp d dp n) a = z_ln σ a := rfl
theorem z_sz_cp (s sp d dp n : Nat) : z_sz (z_cp σ s sp d dp n) = z_sz σ := rfl
theorem z_sw_cp (s sp d dp n : Nat) : z_sw (z_cp σ s sp d dp n) = z_sw σ := rfl
theorem z_i_cp (s sp d dp n : Nat) : z_i (z_cp σ s sp d dp n) a j = if a = d ∧ dp ≤ j ∧ j < dp + n then z_i σ s (sp + (j - dp)) else z_i σ a j := rfl
theorem z_l_cp (s sp d dp n : Nat) : z_l (z_cp σ s sp d dp n) a j = z_l σ a j := rfl
theorem z_r_cp (s sp d dp n : Nat) : z_r (z_cp σ s sp d dp n) a j = z_r σ a j := rfl
end ZRW
theorem z_cell_same {cA : Nat → ClassId} {A : Nat → Value} {base : Nat} {σ τ : ZM} {q : Nat} (h1 : z_kd τ q = z_kd σ q) (h2 : z_ln τ q = z_ln σ q) (h3 : ∀ j, z_i τ q j = z_i σ q j) (h4 : ∀ j, z_l τ q j = z_l σ q j) (h5 : ∀ j, z_r τ q j = z_r σ q j) : z_cell cA A base τ q = z_cell cA A base σ q := by
  have e3 : z_i τ q = z_i σ q := funext h3
  have e4 : z_l τ q = z_l σ q := funext h4
  have e6 : z_fs A τ q = z_fs A σ q := by
    funext i
    unfold z_fs z_fv
    simp only [h3, h4, h5]
  unfold z_cell
  rw [h1, h2, e3, e4, e6]
  simp only [h5]
theorem z_cell_ui {cA : Nat → ClassId} {A : Nat → Value} {base : Nat} {σ : ZM} {r k : Nat} {x : Int32} {q : Nat} (h : q ≠ r) : z_cell cA A base (z_ui σ r k x) q = z_cell cA A base σ q :=
  z_cell_same rfl rfl (fun j => by rw [z_i_ui, if_neg (fun e => h e.1)]) (fun _ => rfl) (fun _ => rfl)
theorem z_cell_ul {cA : Nat → ClassId} {A : Nat → Value} {base : Nat} {σ : ZM} {r k : Nat} {x : Int64} {q : Nat} (h : q ≠ r) : z_cell cA A base (z_ul σ r k x) q = z_cell cA A base σ q :=
  z_cell_same rfl rfl (fun _ => rfl) (fun j => by rw [z_l_ul, if_neg (fun e => h e.1)]) (fun _ => rfl)
theorem z_cell_ur {cA : Nat → ClassId} {A : Nat → Value} {base : Nat} {σ : ZM} {r k : Nat} {x : Nat} {q : Nat} (h : q ≠ r) : z_cell cA A base (z_ur σ r k x) q = z_cell cA A base σ q :=
  z_cell_same rfl rfl (fun _ => rfl) (fun _ => rfl) (fun j => by rw [z_r_ur, if_neg (fun e => h e.1)])
theorem z_cell_al {cA : Nat → ClassId} {A : Nat → Value} {base : Nat} {σ : ZM} {kd n w : Nat} {q : Nat} (h : q ≠ z_sz σ) : z_cell cA A base (z_al σ kd n w) q = z_cell cA A base σ q :=
  z_cell_same (by rw [z_kd_al, if_neg h]) (by rw [z_ln_al, if_neg h]) (fun j => by rw [z_i_al, if_neg h]) (fun j => by rw [z_l_al, if_neg h]) (fun j => by rw [z_r_al, if_neg h])
theorem z_cell_cp {cA : Nat → ClassId} {A : Nat → Value} {base : Nat} {σ : ZM} {s sp d dp n : Nat} {q : Nat} (h : q ≠ d) : z_cell cA A base (z_cp σ s sp d dp n) q = z_cell cA A base σ q :=
  z_cell_same rfl rfl (fun j => by rw [z_i_cp, if_neg (fun e => h e.1)]) (fun _ => rfl) (fun _ => rfl)
section ZPU
variable {O σ : ZM}
theorem z_pu_ui {r k : Nat} {x : Int32} (h : z_pu O σ) (hr : 10 ≤ r) : z_pu O (z_ui σ r k x) :=
  ⟨h.1, h.2.1, fun q hq => ⟨(h.2.2.1 q hq).1, (h.2.2.1 q hq).2.1, fun j => ⟨by rw [z_i_ui, if_neg (by omega)]; exact ((h.2.2.1 q hq).2.2 j).1, ((h.2.2.1 q hq).2.2 j).2⟩⟩, h.2.2.2⟩
theorem z_pu_ul {r k : Nat} {x : Int64} (h : z_pu O σ) : z_pu O (z_ul σ r k x) := h
theorem z_pu_ur {r k : Nat} {x : Nat} (h : z_pu O σ) (hr : 10 ≤ r) (hx : z_kd σ r = 24 → x = 0 ∨ 10 ≤ x) : z_pu O (z_ur σ r k x) :=
  ⟨h.1, h.2.1, fun q hq => ⟨(h.2.2.1 q hq).1, (h.2.2.1 q hq).2.1, fun j => ⟨((h.2.2.1 q hq).2.2 j).1, by rw [z_r_ur, if_neg (by omega)]; exact ((h.2.2.1 q hq).2.2 j).2⟩⟩, h.2.2.2.1, fun a j ha => by
    rw [z_r_ur]
    split
    · rename_i e
      rw [z_kd_ur, e.1] at ha
      exact hx ha
    · exact h.2.2.2.2 a j ha⟩
theorem z_pu_al {kd n w : Nat} (h : z_pu O σ) (h13 : kd ≠ 13) : z_pu O (z_al σ kd n w) := by
  have h1 := h.1
  refine ⟨by rw [z_sz_al]; omega, fun r hr => ?_, fun q hq => ?_, fun r hr => ?_, fun r j hr => ?_⟩
  · rw [z_kd_al] at hr
    rw [z_sz_al]
    by_cases e : r = z_sz σ
    · omega
    · rw [if_neg e] at hr
      have := h.2.1 r hr
      omega
  · have e : q ≠ z_sz σ := by omega
    refine ⟨by rw [z_kd_al, if_neg e]; exact (h.2.2.1 q hq).1, by rw [z_ln_al, if_neg e]; exact (h.2.2.1 q hq).2.1, fun j => ⟨by rw [z_i_al, if_neg e]; exact ((h.2.2.1 q hq).2.2 j).1, by rw [z_r_al, if_neg e]; exact ((h.2.2.1 q hq).2.2 j).2⟩⟩
  · rw [z_kd_al]
    split
    · exact h13
    · exact h.2.2.2.1 r hr
  · rw [z_r_al]
    split
    · exact Or.inl rfl
    · rename_i e
      rw [z_kd_al, if_neg e] at hr
      exact h.2.2.2.2 r j hr
theorem z_pu_cp {s sp d dp n : Nat} (h : z_pu O σ) (hr : 10 ≤ d) : z_pu O (z_cp σ s sp d dp n) :=
  ⟨h.1, h.2.1, fun q hq => ⟨(h.2.2.1 q hq).1, (h.2.2.1 q hq).2.1, fun j => ⟨by rw [z_i_cp, if_neg (by omega)]; exact ((h.2.2.1 q hq).2.2 j).1, ((h.2.2.1 q hq).2.2 j).2⟩⟩, h.2.2.2⟩
end ZPU

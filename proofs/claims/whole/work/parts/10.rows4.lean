/-! rows that make cells, references in arrays, statics -/
theorem z_nd0 : ∀ k, k < z_nf 0 → z_tyS (z_ty 0 k) ≠ 9 := by decide +kernel
theorem z_nd1 : ∀ k, k < z_nf 1 → z_tyS (z_ty 1 k) ≠ 9 := by decide +kernel
theorem z_nd2 : ∀ k, k < z_nf 2 → z_tyS (z_ty 2 k) ≠ 9 := by decide +kernel
theorem z_nd3 : ∀ k, k < z_nf 3 → z_tyS (z_ty 3 k) ≠ 9 := by decide +kernel
theorem z_nd4 : ∀ k, k < z_nf 4 → z_tyS (z_ty 4 k) ≠ 9 := by decide +kernel
theorem z_nd5 : ∀ k, k < z_nf 5 → z_tyS (z_ty 5 k) ≠ 9 := by decide +kernel
theorem z_nd6 : ∀ k, k < z_nf 6 → z_tyS (z_ty 6 k) ≠ 9 := by decide +kernel
theorem z_nd7 : ∀ k, k < z_nf 7 → z_tyS (z_ty 7 k) ≠ 9 := by decide +kernel
theorem z_nd8 : ∀ k, k < z_nf 8 → z_tyS (z_ty 8 k) ≠ 9 := by decide +kernel
theorem z_nd9 : ∀ k, k < z_nf 9 → z_tyS (z_ty 9 k) ≠ 9 := by decide +kernel
theorem z_nd10 : ∀ k, k < z_nf 10 → z_tyS (z_ty 10 k) ≠ 9 := by decide +kernel
theorem z_nd11 : ∀ k, k < z_nf 11 → z_tyS (z_ty 11 k) ≠ 9 := by decide +kernel
theorem z_nodef {i : Nat} (hi : i < 12) : ∀ k, k < z_nf i → z_tyS (z_ty i k) ≠ 9 := by
  match i, hi with
  | 0, _ => exact z_nd0
  | 1, _ => exact z_nd1
  | 2, _ => exact z_nd2
  | 3, _ => exact z_nd3
  | 4, _ => exact z_nd4
  | 5, _ => exact z_nd5
  | 6, _ => exact z_nd6
  | 7, _ => exact z_nd7
  | 8, _ => exact z_nd8
  | 9, _ => exact z_nd9
  | 10, _ => exact z_nd10
  | 11, _ => exact z_nd11
theorem z_ac (t : FieldType) (h : Cond.arrayClass t ∈ lw_tbl) : Cond.arrayClass t ∈ z_tb := z_tb_in h rfl
section ZROWS4
variable {p : Program} {l : Launch} {e : Env} {R : Room} {s : State} {m : MethodId} {args : Array Value} {below : List Frame} {meth : Method} {c : Code} {Q : State → Prop} {cc : ByteArray} {own : String} {nL : Nat} {D : va_G} {cA : Nat → ClassId} {O : ZM} {A : Nat → Value} {base n0 w0 : Nat} {pc : Nat} {L : ZL} {S : List ZV} {σ : ZM}
theorem z_rA (X : z_C p s m args c cc own nL D cA O A base n0) {r : Nat} (h : r = 0 ∨ 10 ≤ r) : A r = va_rf (z_o base r) := by
  unfold z_o
  rcases h with rfl | h
  · rw [X.2.2.2.1.1 0 rfl]; rfl
  · rw [if_neg (by omega), X.2.2.2.2.1 r h]; rfl
theorem z_s_aald (X : z_C p s m args c cc own nL D cA O A base n0) {r : Nat} {i : Int32} (ha : z_at σ r 24 i = true) (hd : decode cc pc = .ok (.aaload, 1)) (w : z_W p l e R s m args below meth c Q D cA O A base n0 w0 nL (pc + 1) L (vr (z_r σ r i.toNatClampNeg) :: S) σ) : z_W p l e R s m args below meth c Q D cA O A base n0 w0 nL pc L (vi i :: vr r :: S) σ := by
  intro H locs ls hP hu hS hl hn hw
  obtain ⟨hk, hi⟩ := z_at_kd ha
  have w' := w H locs ls hP hu hS hl hn hw
  rw [show (vr (z_r σ r i.toNatClampNeg) :: S).map (z_cv A) = A (z_r σ r i.toNatClampNeg) :: S.map (z_cv A) from rfl, z_rA X (hu.2.2.2.2 r _ hk)] at w'
  rw [show (vi i :: vr r :: S).map (z_cv A) = .int i :: A r :: S.map (z_cv A) from rfl]
  obtain ⟨h10, h2⟩ := z_fresh (r := r) hu X.2.2.2.2.2.2.2 (by omega) (by omega) (by omega) (by omega)
  rw [X.2.2.2.2.1 r h10]
  exact va_aldq X.1.1 X.1.2.1 X.2.1.1 hP (r - 10) 4 (by rw [z_ws_at h10 h2, z_cell_24 hk]) rfl (z_ix_in hi) hd w'
theorem z_s_aast (X : z_C p s m args c cc own nL D cA O A base n0) {r x : Nat} {i : Int32} (ha : z_at σ r 24 i = true) (hx : x = 0 ∨ z_kd σ x = 9) (hd : decode cc pc = .ok (.aastore, 1)) (w : z_W p l e R s m args below meth c Q D cA O A base n0 w0 nL (pc + 1) L S (z_ur σ r i.toNatClampNeg x)) : z_W p l e R s m args below meth c Q D cA O A base n0 w0 nL pc L (vr x :: vi i :: vr r :: S) σ := by
  intro H locs ls hP hu hS hl hn hw
  obtain ⟨hk, hi⟩ := z_at_kd ha
  obtain ⟨h10, h2⟩ := z_fresh (r := r) hu X.2.2.2.2.2.2.2 (by omega) (by omega) (by omega) (by omega)
  rw [show (vr x :: vi i :: vr r :: S).map (z_cv A) = A x :: .int i :: A r :: S.map (z_cv A) from rfl, X.2.2.2.2.1 r h10]
  have hx0 : x = 0 ∨ 10 ≤ x := by
    rcases hx with h | h
    · exact Or.inl h
    · exact Or.inr (z_fresh (r := x) hu X.2.2.2.2.2.2.2 (by omega) (by omega) (by omega) (by omega)).1
  have ee : (fun j => z_o base (z_r (z_ur σ r i.toNatClampNeg x) r j)) = va_up (fun j => z_o base (z_r σ r j)) i.toNatClampNeg (z_o base x) := by
    funext j
    rw [z_r_ur]
    unfold va_up
    by_cases h : j = i.toNatClampNeg
    · simp [h]
    · simp [h]
  have fin : ∀ (H1 : Heap) (locs1 : List Loc), va_P D vwCl ((z_ws cA A base σ).set (r - 10) (base + (r - 10), .inl (cA 4, z_ln σ r, .inr (.inr (.inr (.inr (va_up (fun j => z_o base (z_r σ r j)) i.toNatClampNeg (z_o base x)))))))) H1 → va_S (z_B base) s.heap H1 locs1 → W p l e R s m args below meth c H1 locs1 (z_sz σ - n0) (z_sw σ - w0) Q (F0 m (pc + 1) ls (S.map (z_cv A))) := by
    intro H1 locs1 q1 q3
    refine w H1 locs1 ls (z_after (σ := σ) (τ := z_ur σ r i.toNatClampNeg x) h10 rfl ?_ (fun q hq => z_cell_ur hq) q1) (z_pu_ur hu h10 (fun _ => hx0)) q3 hl hn hw
    rw [z_cell_24 (by rw [z_kd_ur]; exact hk), ee, z_ln_ur]
  rcases hx with rfl | hx
  · rw [X.2.2.2.1.1 0 rfl]
    exact va_astqN X.1.1 X.1.2.1 X.2.1.1 hP (z_ws_D (fun q h => h)) hS (r - 10) 4 (by rw [z_ws_at h10 h2, z_cell_24 hk]) rfl (z_ix_in hi) hd (fun H1 locs1 q1 _ q3 => fin H1 locs1 q1 q3)
  · obtain ⟨x10, x2⟩ := z_fresh (r := x) hu X.2.2.2.2.2.2.2 (by omega) (by omega) (by omega) (by omega)
    rw [X.2.2.2.2.1 x x10]
    have ex : z_o base x = some (base + (x - 10)) := by unfold z_o; rw [if_neg (by omega)]
    rw [ex] at fin
    exact va_astq X.1.1 X.1.2.1 X.2.1.1 hP (z_ws_D (fun q h => h)) hS (r - 10) 4 (x - 10) 8 (r := (z_R 8, z_T 8, z_nf 8)) (by rw [z_ws_at h10 h2, z_cell_24 hk]) rfl (by rw [z_ws_at x10 x2, z_cell_obj (i := 8) (by decide) hx]) rfl (z_ix_in hi) hd (fun H1 locs1 q1 _ q3 => fin H1 locs1 q1 q3)
/-- a new cell -/
theorem z_new_W (X : z_C p s m args c cc own nL D cA O A base n0) {kd n wd len : Nat} {vs : List Value} {H1 : Heap} {locs1 : List Loc} {ls : Array Slot} {q : Nat} {x : va_E} (hu : z_pu O σ) (hn : n0 ≤ z_sz σ) (hw : w0 ≤ z_sw σ) (hl : z_lv A ls nL L) (h13 : kd ≠ 13) (hx : x = z_cell cA A base (z_al σ kd n wd) (z_sz σ)) (hP : va_P D vwCl (z_ws cA A base σ ++ [(q, x)]) H1) (hD : va_D (z_B base) (z_ws cA A base σ ++ [(q, x)])) (hS : va_S (z_B base) s.heap H1 locs1)
    (w : z_W p l e R s m args below meth c Q D cA O A base n0 w0 nL (pc + len) L (vr (z_sz σ) :: S) (z_al σ kd n wd)) : W p l e R s m args below meth c H1 locs1 (z_sz σ - n0 + 1) (z_sw σ - w0 + wd) Q (F0 m (pc + len) ls (.ref q :: S.map (z_cv A))) := by
  refine z_Wsz (fun hz => ?_)
  have h10 := hu.1
  have hb := X.2.2.2.2.2.1
  have hb2 := X.2.2.2.2.2.2.1
  have hq : q = base + (z_sz σ - 10) := z_addr (σ := σ) h10 hP hD (by omega)
  subst hq
  rw [hx, z_ws_add h10 (z_sz_al σ kd n wd) (fun r hr => z_cell_al (by omega))] at hP
  have w' := w H1 locs1 ls hP (z_pu_al hu h13) hS hl (by rw [z_sz_al]; omega) (by rw [z_sw_al]; omega)
  rw [show (vr (z_sz σ) :: S).map (z_cv A) = A (z_sz σ) :: S.map (z_cv A) from rfl, X.2.2.2.2.1 _ h10, z_sz_al, z_sw_al, show z_sz σ + 1 - n0 = z_sz σ - n0 + 1 by omega, show z_sw σ + wd - w0 = z_sw σ - w0 + wd by omega] at w'
  exact w'
theorem z_s_new (X : z_C p s m args c cc own nL D cA O A base n0) {idx i : Nat} (hi : i < 12) (hc : Cond.classLink own idx (z_R i) ∈ z_tb) (h1 : z_sz σ + 1 ≤ n0 + R.cells) (h2 : z_sw σ + z_nf i ≤ w0 + R.slots) (hd : decode cc pc = .ok (.new idx, 3)) (w : z_W p l e R s m args below meth c Q D cA O A base n0 w0 nL (pc + 3) L (vr (z_sz σ) :: S) (z_al σ (i + 1) 0 (z_nf i))) : z_W p l e R s m args below meth c Q D cA O A base n0 w0 nL pc L S σ := by
  intro H locs ls hP hu hS hl hn hw
  refine va_new (fs := z_fs A (z_al σ (i + 1) 0 (z_nf i)) (z_sz σ) i) X.1.1 X.1.2.1 (fun w h => X.1.2.2.2.2 w h) (fun w h => z_tb_in (z_all_in hi w h) (z_uw w hi h)) (z_ty i) (z_all_ty hi) X.1.2.2.2.1 (X.1.2.2.2.2 _ hc) (X.1.2.2.2.2 _ (z_tb_in (z_all_ib hi).1 rfl)) (X.1.2.2.2.2 _ (z_tb_in (z_all_ib hi).2 rfl)) X.2.1.1 hP (z_ws_D (fun q h => h)) hS (fun q h => ?_) (z_cl hi) (fun j hj => ?_) (by omega) (by omega) hd (fun q H1 q1 q2 q3 => ?_)
  · have hb := X.2.2.2.2.2.1
    show base ≤ q
    omega
  · unfold vp_V
    rw [List.getD_eq_getElem?_getD, z_fs_get hj]
    show defaultValue (z_ty i j) = z_fv A _ _ _ _
    unfold z_fv
    rw [z_i_al, z_l_al, z_r_al, if_pos rfl, if_pos rfl, if_pos rfl, X.2.2.2.1.1 0 rfl, ← z_tys_all hi j hj]
    have := z_nodef hi j hj
    cases h : z_ty i j <;> first | rfl | (rw [h] at this; exact absurd this (by decide))
  · exact z_new_W X (len := 3) (vs := []) hu hn hw hl (by omega) (by rw [z_cell_obj hi (by rw [z_kd_al, if_pos rfl])]) q1 q2 q3 w
theorem z_cls (X : z_C p s m args c cc own nL D cA O A base n0) {k : Nat} {c1 c2 : ClassId} {ty : FieldType} {tys : List (ClassId × FieldType)} (h : (z_tys cA)[k]? = some (c2, ty)) (hne : ∀ C, ty ≠ .object C) (hK : va_K D vwCl (tys ++ [(c1, ty)]) s) : c1 = c2 := by
  have e : (tys ++ [(c1, ty)])[tys.length]? = some (c1, ty) := by rw [List.getElem?_append_right (Nat.le_refl _), Nat.sub_self]; rfl
  have h1 := (hK.2 _ _ e).2
  have h2 := (X.2.1.1.2 _ _ h).2
  unfold va_RA at h1 h2
  cases ty <;> first | exact absurd rfl (hne _) | exact Option.some.inj (h1.symm.trans h2)
theorem z_clsO (X : z_C p s m args c cc own nL D cA O A base n0) {k : Nat} {c1 c2 : ClassId} {C : String} {tys : List (ClassId × FieldType)} (h : (z_tys cA)[k]? = some (c2, .object C)) (hK : va_K D vwCl (tys ++ [(c1, .object C)]) s) : c1 = c2 := by
  have e : (tys ++ [(c1, FieldType.object C)])[tys.length]? = some (c1, .object C) := by rw [List.getElem?_append_right (Nat.le_refl _), Nat.sub_self]; rfl
  obtain ⟨_, _, -, -, -, h1⟩ := (hK.2 _ _ e).2
  obtain ⟨_, _, -, -, -, h2⟩ := (X.2.1.1.2 _ _ h).2
  exact Option.some.inj (h1.symm.trans h2)
theorem z_s_newa (X : z_C p s m args c cc own nL D cA O A base n0) {t : ArrayType} {n : Int32} (ht : Nat.ble 20 (z_arrK t) = true) (h0 : 0 ≤ n) (hmx : n.toNatClampNeg ≤ 100000) (h1 : z_sz σ + 1 ≤ n0 + R.cells) (h2 : z_sw σ + n.toNatClampNeg ≤ w0 + R.slots) (hd : decode cc pc = .ok (.newarray t, 2)) (w : z_W p l e R s m args below meth c Q D cA O A base n0 w0 nL (pc + 2) L (vr (z_sz σ) :: S) (z_al σ (z_arrK t) n.toNatClampNeg n.toNatClampNeg)) : z_W p l e R s m args below meth c Q D cA O A base n0 w0 nL pc L (vi n :: S) σ := by
  intro H locs ls hP hu hS hl hn hw
  have hA : ∀ q, s.heap.size ≤ q → z_B base q := fun q h => by
    have hb := X.2.2.2.2.2.1
    show base ≤ q
    omega
  have hn0 : ¬ n < 0 := Int32.not_lt.mpr h0
  have hk : ∀ kd, z_kd (z_al σ kd n.toNatClampNeg n.toNatClampNeg) (z_sz σ) = kd := fun kd => by rw [z_kd_al, if_pos rfl]
  have hln : ∀ kd, z_ln (z_al σ kd n.toNatClampNeg n.toNatClampNeg) (z_sz σ) = n.toNatClampNeg := fun kd => by rw [z_ln_al, if_pos rfl]
  have hzi : ∀ kd, z_i (z_al σ kd n.toNatClampNeg n.toNatClampNeg) (z_sz σ) = fun _ => 0 := fun kd => by funext j; rw [z_i_al, if_pos rfl]
  have hzl : ∀ kd, z_l (z_al σ kd n.toNatClampNeg n.toNatClampNeg) (z_sz σ) = fun _ => 0 := fun kd => by funext j; rw [z_l_al, if_pos rfl]
  cases t with
  | int =>
    refine va_newa (atype := .int) (ty := .int) (a0 := (n.toNatClampNeg, .inl (fun _ => 0))) X.1.1 X.1.2.1 (X.1.2.2.2.2 _ (z_ac .int (by decide +kernel))) rfl X.2.1.1 hP (z_ws_D (fun q h => h)) hS hA (fun _ => rfl) hn0 rfl (by show _ * 4 ≤ _; omega) (by omega) (by omega) hd (fun q c1 H1 hK q1 q2 q3 => ?_)
    have ec := z_cls X (k := 0) rfl (fun _ h => by cases h) hK
    subst ec
    exact z_new_W X (kd := 20) (n := n.toNatClampNeg) (wd := n.toNatClampNeg) (len := 2) (vs := []) hu hn hw hl (by decide) (by rw [z_cell_20 (hk 20), hln, hzi]) q1 q2 q3 w
  | byte =>
    refine va_newa (atype := .byte) (ty := .byte) (a0 := (n.toNatClampNeg, .inl (fun _ => 0))) X.1.1 X.1.2.1 (X.1.2.2.2.2 _ (z_ac .byte (by decide +kernel))) rfl X.2.1.1 hP (z_ws_D (fun q h => h)) hS hA (fun _ => rfl) hn0 rfl (by show _ * 1 ≤ _; omega) (by omega) (by omega) hd (fun q c1 H1 hK q1 q2 q3 => ?_)
    have ec := z_cls X (k := 1) rfl (fun _ h => by cases h) hK
    subst ec
    exact z_new_W X (kd := 21) (n := n.toNatClampNeg) (wd := n.toNatClampNeg) (len := 2) (vs := []) hu hn hw hl (by decide) (by rw [z_cell_21 (hk 21), hln, hzi]) q1 q2 q3 w
  | boolean =>
    refine va_newa (atype := .boolean) (ty := .boolean) (a0 := (n.toNatClampNeg, .inl (fun _ => 0))) X.1.1 X.1.2.1 (X.1.2.2.2.2 _ (z_ac .boolean (by decide +kernel))) rfl X.2.1.1 hP (z_ws_D (fun q h => h)) hS hA (fun _ => rfl) hn0 rfl (by show _ * 1 ≤ _; omega) (by omega) (by omega) hd (fun q c1 H1 hK q1 q2 q3 => ?_)
    have ec := z_cls X (k := 2) rfl (fun _ h => by cases h) hK
    subst ec
    exact z_new_W X (kd := 22) (n := n.toNatClampNeg) (wd := n.toNatClampNeg) (len := 2) (vs := []) hu hn hw hl (by decide) (by rw [z_cell_22 (hk 22), hln, hzi]) q1 q2 q3 w
  | long =>
    refine va_newa (atype := .long) (ty := .long) (a0 := (n.toNatClampNeg, .inr (.inl (fun _ => 0)))) X.1.1 X.1.2.1 (X.1.2.2.2.2 _ (z_ac .long (by decide +kernel))) rfl X.2.1.1 hP (z_ws_D (fun q h => h)) hS hA (fun _ => rfl) hn0 rfl (by show _ * 8 ≤ _; omega) (by omega) (by omega) hd (fun q c1 H1 hK q1 q2 q3 => ?_)
    have ec := z_cls X (k := 3) rfl (fun _ h => by cases h) hK
    subst ec
    exact z_new_W X (kd := 23) (n := n.toNatClampNeg) (wd := n.toNatClampNeg) (len := 2) (vs := []) hu hn hw hl (by decide) (by rw [z_cell_23 (hk 23), hln, hzl]) q1 q2 q3 w
  | _ => cases ht
theorem z_s_anew (X : z_C p s m args c cc own nL D cA O A base n0) {idx : Nat} {n : Int32} (hc : Cond.classLink own idx "BreatheAsOne$Text" ∈ z_tb) (h0 : 0 ≤ n) (hmx : n.toNatClampNeg ≤ 100000) (h1 : z_sz σ + 1 ≤ n0 + R.cells) (h2 : z_sw σ + n.toNatClampNeg ≤ w0 + R.slots) (hd : decode cc pc = .ok (.anewarray idx, 3)) (w : z_W p l e R s m args below meth c Q D cA O A base n0 w0 nL (pc + 3) L (vr (z_sz σ) :: S) (z_al σ 24 n.toNatClampNeg n.toNatClampNeg)) : z_W p l e R s m args below meth c Q D cA O A base n0 w0 nL pc L (vi n :: S) σ := by
  intro H locs ls hP hu hS hl hn hw
  have hA : ∀ q, s.heap.size ≤ q → z_B base q := fun q h => by
    have hb := X.2.2.2.2.2.1
    show base ≤ q
    omega
  refine va_newq X.1.1 X.1.2.1 X.1.2.2.2.1 (X.1.2.2.2.2 _ hc) X.2.1.2.2.2.1 X.2.1.1 hP (z_ws_D (fun q h => h)) hS hA (Int32.not_lt.mpr h0) rfl (by omega) (by omega) (by omega) hd (fun q c1 H1 hK q1 q2 q3 => ?_)
  have ec := z_clsO X (k := 4) rfl hK
  subst ec
  refine z_new_W X (len := 3) (vs := []) hu hn hw hl (by decide) ?_ q1 q2 q3 w
  rw [z_cell_24 (by rw [z_kd_al, if_pos rfl]), z_ln_al, if_pos rfl]
  have : (fun j => z_o base (z_r (z_al σ 24 n.toNatClampNeg n.toNatClampNeg) (z_sz σ) j)) = fun _ => none := by
    funext j; rw [z_r_al, if_pos rfl]; rfl
  rw [this]
theorem z_s_gets (X : z_C p s m args c cc own nL D cA O A base n0) {C n d : String} {idx : Nat} {v : ZV} (hZ : va_Z C n d (z_cv A v) (z_B base) s s.heap) (hlink : Cond.fieldLink own idx C n d ∈ z_tb) (hd : decode cc pc = .ok (.getstatic idx, 3)) (w : z_W p l e R s m args below meth c Q D cA O A base n0 w0 nL (pc + 3) L (v :: S) σ) : z_W p l e R s m args below meth c Q D cA O A base n0 w0 nL pc L S σ := by
  intro H locs ls hP hu hS hl hn hw
  exact va_gets X.1.1 X.1.2.1 hZ hS X.1.2.2.2.1 (X.1.2.2.2.2 _ hlink) (fun x h => h) hd (w H locs ls hP hu hS hl hn hw)
theorem z_s_ldcS (X : z_C p s m args c cc own nL D cA O A base n0) {idx r : Nat} {tx : String} (hR : ∃ q, A r = .ref q ∧ vk_R own idx tx q s) (hd : decode cc pc = .ok (.ldc idx, 2)) (w : z_W p l e R s m args below meth c Q D cA O A base n0 w0 nL (pc + 2) L (vr r :: S) σ) : z_W p l e R s m args below meth c Q D cA O A base n0 w0 nL pc L S σ := by
  intro H locs ls hP hu hS hl hn hw
  obtain ⟨q, e, h⟩ := hR
  have w' := w H locs ls hP hu hS hl hn hw
  rw [show (vr r :: S).map (z_cv A) = A r :: S.map (z_cv A) from rfl, e] at w'
  exact va_ldcS X.1.1 X.1.2.1 X.1.2.2.2.1 h hd w'
theorem z_s_cast (X : z_C p s m args c cc own nL D cA O A base n0) {idx r : Nat} (hk : z_kd σ r = 20) (h10 : 10 ≤ r) (hlink : Cond.classLink own idx "[I" ∈ z_tb) (hd : decode cc pc = .ok (.checkcast idx, 3)) (w : z_W p l e R s m args below meth c Q D cA O A base n0 w0 nL (pc + 3) L (vr r :: S) σ) : z_W p l e R s m args below meth c Q D cA O A base n0 w0 nL pc L (vr r :: S) σ := by
  intro H locs ls hP hu hS hl hn hw
  have h2 : r < z_sz σ := hu.2.1 r (by omega)
  have w' := w H locs ls hP hu hS hl hn hw
  rw [show (vr r :: S).map (z_cv A) = A r :: S.map (z_cv A) from rfl, X.2.2.2.2.1 r h10] at w' ⊢
  exact va_castA X.1.1 X.1.2.1 X.1.2.2.2.1 (X.1.2.2.2.2 _ hlink) hP (r - 10) (cA := cA 0) (x := (z_ln σ r, .inl (z_i σ r))) (by rw [z_ws_at h10 h2, z_cell_20 hk]) (X.2.1.1.2 0 _ rfl).2 hd w'
end ZROWS4

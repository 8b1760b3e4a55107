/-! copies, calls -/
theorem z_w_native : Cond.native arraycopyName ∈ z_tb := z_tb_of (i := 712) (by decide +kernel) (by decide +kernel)
theorem z_w_static : Cond.static arraycopyName ∈ z_tb := z_tb_of (i := 711) (by decide +kernel) (by decide +kernel)
theorem z_w_system : Cond.initialized "java/lang/System" ∈ z_tb := z_tb_of (i := 19) (by decide +kernel) (by decide +kernel)
theorem z_w_csame : Cond.sameMethod "[I" "java/lang/Object" "clone" "()Ljava/lang/Object;" ∈ z_tb := z_tb_of (i := 703) (by decide +kernel) (by decide +kernel)
theorem z_w_cnat : Cond.native ⟨"java/lang/Object", "clone", "()Ljava/lang/Object;"⟩ ∈ z_tb := z_tb_of (i := 704) (by decide +kernel) (by decide +kernel)
theorem z_w_cins : Cond.instanceMethod ⟨"java/lang/Object", "clone", "()Ljava/lang/Object;"⟩ ∈ z_tb := z_tb_of (i := 705) (by decide +kernel) (by decide +kernel)
theorem z_w_csel : Cond.selects "[I" ⟨"[I", "clone", "()Ljava/lang/Object;"⟩ ⟨"java/lang/Object", "clone", "()Ljava/lang/Object;"⟩ ∈ z_tb := z_tb_of (i := 706) (by decide +kernel) (by decide +kernel)
theorem z_w_oins : Cond.instanceMethod Lib.objectInit ∈ z_tb := z_tb_of (i := 28) (by decide +kernel) (by decide +kernel)
theorem z_w_ocode : Cond.code Lib.objectInit ⟨#[0xb1]⟩ 1 none ∈ z_tb := z_tb_of (i := 29) (by decide +kernel) (by decide +kernel)
theorem z_cat_eq {A : Nat → Value} (hA : ∀ r, A r = .null ∨ ∃ a, A r = .ref a) : ∀ S : List ZV, ((S.map (z_cv A)).map fun v => v.category).sum = z_cat S
  | [] => rfl
  | v :: S => by
    rw [List.map_cons, List.map_cons, List.sum_cons, z_cat_eq hA S, z_cv_cat hA v]
    match v with
    | .inl x => show 1 + z_cat S = z_cat S + 1; omega
    | .inr (.inl x) => show 2 + z_cat S = z_cat S + 2; omega
    | .inr (.inr x) => show 1 + z_cat S = z_cat S + 1; omega
section ZCP
variable (σ : ZM) (a b j : Nat)
theorem z_kd_cn : z_kd (z_cn σ a) b = if b = z_sz σ then 20 else z_kd σ b := z_kd_al σ b 20 (z_ln σ a) (z_ln σ a)
theorem z_ln_cn : z_ln (z_cn σ a) b = if b = z_sz σ then z_ln σ a else z_ln σ b := z_ln_al σ b 20 (z_ln σ a) (z_ln σ a)
theorem z_sz_cn : z_sz (z_cn σ a) = z_sz σ + 1 := rfl
theorem z_sw_cn : z_sw (z_cn σ a) = z_sw σ + z_ln σ a := rfl
theorem z_i_cn : z_i (z_cn σ a) b j = if b = z_sz σ then z_i σ a j else z_i σ b j := rfl
theorem z_l_cn : z_l (z_cn σ a) b j = if b = z_sz σ then 0 else z_l σ b j := rfl
theorem z_r_cn : z_r (z_cn σ a) b j = if b = z_sz σ then 0 else z_r σ b j := rfl
end ZCP
theorem z_pu_cn {O σ : ZM} {a : Nat} (h : z_pu O σ) : z_pu O (z_cn σ a) := by
  have h0 := z_pu_al (kd := 20) (n := z_ln σ a) (w := z_ln σ a) h (by decide)
  refine ⟨h0.1, h0.2.1, fun q hq => ⟨(h0.2.2.1 q hq).1, (h0.2.2.1 q hq).2.1, fun j => ⟨?_, ((h0.2.2.1 q hq).2.2 j).2⟩⟩, h0.2.2.2⟩
  have h1 := h.1
  rw [z_i_cn, if_neg (by omega)]
  exact ((h.2.2.1 q hq).2.2 j).1
/-- what a method's start and end say -/
def z_Pc (D : va_G) (cA : Nat → ClassId) (O : ZM) (A : Nat → Value) (base : Nat) (as : List ZV) (σ : ZM) : Array Value → State → Prop := fun v U => v = (as.map (z_cv A)).toArray ∧ va_P D vwCl (z_ws cA A base σ) U.heap ∧ z_pu O σ ∧ U.heap.size = base + (z_sz σ - 10) ∧ z_fix D cA O A base U U.heap
def z_rv (A : Nat → Value) (so : Nat) (r : ZV) : Option Value := if so = 4 then none else some (z_cv A r)
def z_Qc (D : va_G) (cA : Nat → ClassId) (O : ZM) (A : Nat → Value) (base so : Nat) (r : ZV) (τ : ZM) : Array Value → State → Outcome → State → Prop := fun _ st o t => o = .returned (z_rv A so r) ∧ va_P D vwCl (z_ws cA A base τ) t.heap ∧ z_pu O τ ∧ va_F (z_B base) st t
theorem z_blind {D : va_G} {cA : Nat → ClassId} {O : ZM} {A : Nat → Value} {base : Nat} {as : List ZV} {σ : ZM} : FrameBlind (z_Pc D cA O A base as σ) := by
  intro a U g mk h
  obtain ⟨h1, h2, h3, h4, h5⟩ := h
  exact ⟨h1, h2, h3, h4, z_fix_to (State.WarmedH.refl U) (fun _ _ _ => rfl) h5⟩
section ZCALL
variable {p : Program} {l : Launch} {e : Env} {R : Room} {s : State} {m : MethodId} {args : Array Value} {below : List Frame} {meth : Method} {c : Code} {Q : State → Prop} {cc : ByteArray} {own : String} {nL : Nat} {D : va_G} {cA : Nat → ClassId} {O : ZM} {A : Nat → Value} {base n0 w0 : Nat} {pc : Nat} {L : ZL} {S : List ZV} {σ : ZM}
theorem z_s_acopy (X : z_C p s m args c cc own nL D cA O A base n0) {idx a b : Nat} {i j n : Int32} (ha : z_kd σ a = 20) (hb : z_kd σ b = 20) (ha10 : 10 ≤ a) (hb10 : 10 ≤ b) (hi : 0 ≤ i) (hj : 0 ≤ j) (hn : 0 ≤ n) (h1 : i.toNatClampNeg + n.toNatClampNeg ≤ z_ln σ a) (h2 : j.toNatClampNeg + n.toNatClampNeg ≤ z_ln σ b) (hlink : Cond.methodLink own idx arraycopyName ∈ z_tb) (hcat : z_cat S ≤ 8) (hR : 1 ≤ R.frames ∧ 40 ≤ R.locals) (hd : decode cc pc = .ok (.invokestatic idx, 3))
    (w : z_W p l e R s m args below meth c Q D cA O A base n0 w0 nL (pc + 3) L S (z_cp σ a i.toNatClampNeg b j.toNatClampNeg n.toNatClampNeg)) : z_W p l e R s m args below meth c Q D cA O A base n0 w0 nL pc L (vi n :: vi j :: vr b :: vi i :: vr a :: S) σ := by
  intro H locs ls hP hu hS hl hn' hw
  have a2 : a < z_sz σ := hu.2.1 a (by omega)
  have b2 : b < z_sz σ := hu.2.1 b (by omega)
  rw [show (vi n :: vi j :: vr b :: vi i :: vr a :: S).map (z_cv A) = .int n :: .int j :: A b :: .int i :: A a :: S.map (z_cv A) from rfl, X.2.2.2.2.1 a ha10, X.2.2.2.2.1 b hb10]
  refine va_copyi X.1.1 X.1.2.1 (by rw [X.1.2.2.1, hl.2.1]) X.1.2.2.2.1 (X.1.2.2.2.2 _ hlink) (X.1.2.2.2.2 _ z_w_native) (X.1.2.2.2.2 _ z_w_static) (X.1.2.2.2.2 _ z_w_system) X.2.1.1 hP (z_ws_D (fun q h => h)) hS (a - 10) (b - 10) 0 0 (by rw [z_ws_at ha10 a2, z_cell_20 ha]) (by rw [z_ws_at hb10 b2, z_cell_20 hb]) rfl rfl rfl (Int32.not_lt.mpr hi) (Int32.not_lt.mpr hj) (Int32.not_lt.mpr hn) h1 h2 (fun _ _ => rfl) hR.1 ?_ hd (fun H1 locs1 q1 _ q3 => ?_)
  · have hc := z_cat_eq X.2.2.1 S
    show _ + (5 + 2 + 11) ≤ _
    omega
  · refine w H1 locs1 ls (z_after (σ := σ) (τ := z_cp σ a i.toNatClampNeg b j.toNatClampNeg n.toNatClampNeg) hb10 rfl ?_ (fun q hq => z_cell_cp hq) q1) (z_pu_cp hu hb10) q3 hl hn' hw
    rw [z_cell_20 (by rw [z_kd_cp]; exact hb), z_ln_cp]
    have ee : z_i (z_cp σ a i.toNatClampNeg b j.toNatClampNeg n.toNatClampNeg) b = va_cpy (z_i σ a) (z_i σ b) i.toNatClampNeg j.toNatClampNeg n.toNatClampNeg := by
      funext k
      rw [z_i_cp]
      unfold va_cpy
      simp
    rw [ee]
theorem z_s_clone (X : z_C p s m args c cc own nL D cA O A base n0) {idx a : Nat} (ha : z_kd σ a = 20) (ha10 : 10 ≤ a) (hlink : Cond.methodLink own idx ⟨"[I", "clone", "()Ljava/lang/Object;"⟩ ∈ z_tb) (hcat : z_cat S ≤ 8) (hR : 1 ≤ R.frames ∧ 40 ≤ R.locals) (h1 : z_sz σ + 1 ≤ n0 + R.cells) (h2 : z_sw σ + z_ln σ a ≤ w0 + R.slots) (hd : decode cc pc = .ok (.invokevirtual idx, 3)) (w : z_W p l e R s m args below meth c Q D cA O A base n0 w0 nL (pc + 3) L (vr (z_sz σ) :: S) (z_cn σ a)) : z_W p l e R s m args below meth c Q D cA O A base n0 w0 nL pc L (vr a :: S) σ := by
  intro H locs ls hP hu hS hl hn hw
  have a2 : a < z_sz σ := hu.2.1 a (by omega)
  have hA : ∀ q, s.heap.size ≤ q → z_B base q := fun q h => by
    have hb := X.2.2.2.2.2.1
    show base ≤ q
    omega
  rw [show (vr a :: S).map (z_cv A) = A a :: S.map (z_cv A) from rfl, X.2.2.2.2.1 a ha10]
  refine va_clone (cA := cA 0) (x := (z_ln σ a, .inl (z_i σ a))) (ty := .int) X.1.1 X.1.2.1 (by rw [X.1.2.2.1, hl.2.1]) X.1.2.2.2.1 (X.1.2.2.2.2 _ hlink) (X.1.2.2.2.2 _ z_w_csame) (X.1.2.2.2.2 _ z_w_cnat) (X.1.2.2.2.2 _ z_w_cins) (X.1.2.2.2.2 _ z_w_csel) X.2.1.2.2.1 X.2.1.1 hP (z_ws_D (fun q h => h)) hS hA (a - 10) 0 (by rw [z_ws_at ha10 a2, z_cell_20 ha]) rfl (X.2.1.1.2 0 _ rfl).2 (fun i v hv => ?_) hR.1 ?_ (by omega) (by show _ + z_ln σ a ≤ _; omega) hd (fun q H1 hK q1 q2 q3 => ?_)
  · have hlt := (Array.getElem?_eq_some_iff.mp hv).1
    have : (vp_cell (cA 0) (z_ln σ a, .inl (z_i σ a))) = arrV (cA 0) (z_ln σ a) (fun j => .int (z_i σ a j)) := rfl
    rw [this] at hv hlt
    rw [arrV_size] at hlt
    rw [arrV_read _ _ hlt] at hv
    cases hv
    rfl
  · have hc := z_cat_eq X.2.2.1 S
    omega
  · show W p l e R s m args below meth c H1 locs (z_sz σ - n0 + 1) (z_sw σ - w0 + z_ln σ a) Q (F0 m (pc + 3) ls (.ref q :: S.map (z_cv A)))
    refine z_Wsz (fun hz => ?_)
    have h10 := hu.1
    have hb := X.2.2.2.2.2.1
    have hb2 := X.2.2.2.2.2.2.1
    have hq : q = base + (z_sz σ - 10) := z_addr (σ := σ) h10 q1 q2 (by omega)
    subst hq
    have hx : (Sum.inl (cA 0, (z_ln σ a, .inl (z_i σ a))) : va_E) = z_cell cA A base (z_cn σ a) (z_sz σ) := by
      rw [z_cell_20 (by rw [z_kd_cn, if_pos rfl]), z_ln_cn, if_pos rfl]
      have : z_i (z_cn σ a) (z_sz σ) = z_i σ a := by funext j; rw [z_i_cn, if_pos rfl]
      rw [this]
    rw [hx, z_ws_add h10 (z_sz_cn σ a) (fun r hr => z_cell_same (by rw [z_kd_cn, if_neg (by omega)]) (by rw [z_ln_cn, if_neg (by omega)]) (fun j => by rw [z_i_cn, if_neg (by omega)]) (fun j => by rw [z_l_cn, if_neg (by omega)]) (fun j => by rw [z_r_cn, if_neg (by omega)]))] at q1
    have w' := w H1 locs ls q1 (z_pu_cn hu) q3 hl (by rw [z_sz_cn]; omega) (by rw [z_sw_cn]; omega)
    rw [show (vr (z_sz σ) :: S).map (z_cv A) = A (z_sz σ) :: S.map (z_cv A) from rfl, X.2.2.2.2.1 _ h10, z_sz_cn, z_sw_cn, show z_sz σ + 1 - n0 = z_sz σ - n0 + 1 by omega, show z_sw σ + z_ln σ a - w0 = z_sw σ - w0 + z_ln σ a by omega] at w'
    exact w'
/-- Object's own constructor -/
theorem z_s_obj (X : z_C p s m args c cc own nL D cA O A base n0) {idx r : Nat} (hr0 : r ≠ 0) (hr9 : r ≠ 9) (hlink : Cond.methodLink own idx Lib.objectInit ∈ z_tb) (hcat : z_cat S ≤ 8) (hR : 1 ≤ R.frames ∧ 40 ≤ R.locals) (hd : decode cc pc = .ok (.invokespecial idx, 3)) (w : z_W p l e R s m args below meth c Q D cA O A base n0 w0 nL (pc + 3) L S σ) : z_W p l e R s m args below meth c Q D cA O A base n0 w0 nL pc L (vr r :: S) σ := by
  intro H locs ls hP hu hS hl hn hw
  rcases X.2.2.1 r with h | ⟨a, h⟩
  · exact ((X.2.2.2.1.2 r h).elim hr0 hr9).elim
  · rw [show (vr r :: S).map (z_cv A) = A r :: S.map (z_cv A) from rfl, h]
    refine W.objInit X.1.1 X.1.2.1 X.1.2.2.2.1 (X.1.2.2.2.2 _ hlink) (X.1.2.2.2.2 _ z_w_oins) (X.1.2.2.2.2 _ z_w_ocode) rfl (by show ls.size = _; rw [X.1.2.2.1, hl.2.1]) rfl hd hR.1 ?_ (w H locs ls hP hu hS hl hn hw)
    have hc := z_cat_eq X.2.2.1 S
    show 2 * 0 + _ + 12 ≤ _
    omega
/-- a call that runs by its contract -/
theorem z_s_run (X : z_C p s m args c cc own nL D cA O A base n0) {as : List ZV} {so : Nat} {r : ZV} {τ : ZM} {st0 : List ZV} (hm1 : z_sz σ ≤ z_sz τ) (hm2 : z_sw σ ≤ z_sw τ)
    (hrun : ∀ (H : Heap) (locs : List Loc) (ls : Array Slot), va_P D vwCl (z_ws cA A base σ) H → z_pu O σ → H.size = base + (z_sz σ - 10) → va_S (z_B base) s.heap H locs → z_lv A ls nL L → n0 ≤ z_sz σ → w0 ≤ z_sw σ → va_Run p l e R s m args below meth c H locs (z_sz σ - n0) (z_sw σ - w0) (z_sz τ - z_sz σ) (z_sw τ - z_sw σ) (F0 m pc ls (st0.map (z_cv A))) (S.map (z_cv A)) (z_Qc D cA O A base so r τ (as.map (z_cv A)).toArray) (z_B base))
    (w : z_W p l e R s m args below meth c Q D cA O A base n0 w0 nL (pc + 3) L (if so = 4 then S else r :: S) τ) : z_W p l e R s m args below meth c Q D cA O A base n0 w0 nL pc L st0 σ := by
  intro H locs ls hP hu hS hl hn hw
  have hb := X.2.2.2.2.2.1
  have hb2 := X.2.2.2.2.2.2.1
  refine z_Wsz (fun hz => ?_)
  have hsz : H.size = base + (z_sz σ - 10) := by
    rcases Nat.lt_or_ge H.size (base + (z_sz σ - 10)) with h | h
    · exfalso
      have h10 := hu.1
      have h3 : base ≤ H.size := by
        have := hS.1
        omega
      have e2 : (z_ws cA A base σ)[H.size - base]? = some (base + (H.size - base), z_cell cA A base σ (10 + (H.size - base))) := by
        unfold z_ws
        rw [List.getElem?_map, List.getElem?_range (by omega)]; rfl
      have := (hP _ _ e2).lt
      dsimp only at this
      omega
    · omega
  intro T hT X0
  obtain ⟨v, st₀, t, T', L1, h0, X', hL, e1, e2, ⟨hq1, hq2, hq3, hq4, hq5⟩, st⟩ := hrun H locs ls hP hu hsz hS hl hn hw T hT X0
  have w' := w t.heap (locs ++ L1) ls hq2 hq3 ⟨Nat.le_trans hS.1 (by rw [← h0]; exact hq4), fun q h1 h2 => by rw [hq5 q (by rw [h0]; exact Nat.lt_of_lt_of_le h1 hS.1) h2, h0]; exact hS.2.1 q h1 h2, fun q hq => by
      rcases List.mem_append.mp hq with h | h
      · exact hS.2.2 q h
      · exact hL q h⟩ hl (by omega) (by omega)
  rw [show z_sz τ - n0 = z_sz σ - n0 + (z_sz τ - z_sz σ) by omega, show z_sw τ - w0 = z_sw σ - w0 + (z_sw τ - z_sw σ) by omega] at w'
  obtain ⟨t2, a1, b1⟩ := w' T' e1 X'
  refine ⟨t2, st t2 ?_, b1⟩
  have hv : v = z_rv A so r := by injection hq1
  rw [hv]
  have ee : (z_rv A so r).toList ++ S.map (z_cv A) = (if so = 4 then S else r :: S).map (z_cv A) := by
    unfold z_rv
    by_cases h : so = 4
    · rw [if_pos h, if_pos h]; rfl
    · rw [if_neg h, if_neg h]; rfl
  rw [ee]
  exact a1
end ZCALL

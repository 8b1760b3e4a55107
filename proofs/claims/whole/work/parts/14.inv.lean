/-! calls by contract, of the three kinds -/
abbrev z_rm (d c w : Nat) : Room := { frames := d, cells := c, slots := w, locals := 50 * d }
def z_Met (l : Launch) (D : va_G) (cA : Nat → ClassId) (O : ZM) (A : Nat → Value) (base d : Nat) (y : MethodName) (bs : ByteArray) (ml : Nat) (rt : Option FieldType) (as : List ZV) (σ : ZM) (r : ZV) (τ : ZM) : Prop :=
  Met l y (Cond.code y bs ml rt :: z_tb) (z_rm d (z_sz τ - z_sz σ) (z_sw τ - z_sw σ)) (z_Pc D cA O A base as σ) (z_Qc D cA O A base (z_rs rt) r τ) (z_sz τ - z_sz σ) (z_sw τ - z_sw σ) (z_B base)
theorem z_good_cons {w : Cond} (h : w ∈ z_tb) : GoodIn z_tb (w :: z_tb) := fun v hv => by
  rcases List.mem_cons.mp hv with rfl | hv
  · exact z_tb_good v h
  · exact z_tb_good v hv
theorem z_pl_ne {c : String} (h : z_pl c = true) : c ≠ "java/lang/invoke/MethodHandle" ∧ c ≠ "java/lang/invoke/VarHandle" := by
  unfold z_pl at h
  simp only [Bool.and_eq_true, Bool.not_eq_true', beq_eq_false_iff_ne] at h
  exact h
section ZINV
variable {p : Program} {l : Launch} {e : Env} {R : Room} {s : State} {m : MethodId} {args : Array Value} {below : List Frame} {meth : Method} {c : Code} {Q : State → Prop} {cc : ByteArray} {own : String} {nL : Nat} {D : va_G} {cA : Nat → ClassId} {O : ZM} {A : Nat → Value} {base n0 w0 : Nat} {pc : Nat} {L : ZL} {S : List ZV} {σ : ZM}
theorem z_pre (X : z_C p s m args c cc own nL D cA O A base n0) {as : List ZV} {H : Heap} {locs : List Loc} (hP : va_P D vwCl (z_ws cA A base σ) H) (hu : z_pu O σ) (hsz : H.size = base + (z_sz σ - 10)) (hS : va_S (z_B base) s.heap H locs) : ∀ U : State, U.heap = H → s.WarmedH U.vm → z_Pc D cA O A base as σ (as.map (z_cv A)).toArray U := by
  intro U hU hW
  refine ⟨rfl, by rw [hU]; exact hP, hu, by rw [hU]; exact hsz, ?_⟩
  rw [hU]
  exact z_fix_to hW (fun a h1 h2 => hS.2.1 a h1 h2) X.2.1
theorem z_s_stat (X : z_C p s m args c cc own nL D cA O A base n0) {d idx ml : Nat} {y : MethodName} {bs : ByteArray} {rt : Option FieldType} {as : List ZV} {r : ZV} {τ : ZM} (hM : z_Met l D cA O A base d y bs ml rt as σ r τ) (hm1 : z_sz σ ≤ z_sz τ) (hm2 : z_sw σ ≤ z_sw τ) (hcode : Cond.code y bs ml rt ∈ z_tb) (hml : ml ≤ 30) (hR : d + 1 ≤ R.frames ∧ 50 * d + 50 ≤ R.locals) (hRc : z_sz τ ≤ n0 + R.cells) (hRw : z_sw τ ≤ w0 + R.slots) (hcat : z_cat S ≤ 8)
    (hini : Cond.initialized y.cls ∈ z_tb) (hpl : z_pl y.cls = true) (hlink : Cond.methodLink own idx y ∈ z_tb ∨ (own, idx, y, "BreatheAsOne") ∈ z_nest) (hst : Cond.static y ∈ z_tb) (hnp : z_np y.desc = some as.length) (hd : decode cc pc = .ok (.invokestatic idx, 3)) (w : z_W p l e R s m args below meth c Q D cA O A base n0 w0 nL (pc + 3) L (if z_rs rt = 4 then S else r :: S) τ) : z_W p l e R s m args below meth c Q D cA O A base n0 w0 nL pc L (as.reverse ++ S) σ := by
  refine z_s_run X (as := as) (so := z_rs rt) (r := r) (τ := τ) hm1 hm2 (fun H locs ls hP hu hsz hS hl hn hw => ?_) w
  have e1 : (as.reverse ++ S).map (z_cv A) = (as.map (z_cv A)).reverse ++ S.map (z_cv A) := by rw [List.map_append, List.map_reverse]
  have hlen : (as.map (z_cv A)).length = as.length := List.length_map ..
  have hc := z_cat_eq X.2.2.1 S
  have hts : ∀ w ∈ z_tb, w.before args s = true := X.1.2.2.2.2
  rcases hlink with hlink | hlink
  · exact va_runS X.1 hM ⟨callB_of as.length hts (z_good_cons hcode) rfl rfl rfl (hts _ hini) (hts _ hlink) ⟨(z_pl_ne hpl).1, (z_pl_ne hpl).2, hnp⟩ ⟨hR.1, by show 8 + (ml + 11) + 50 * d ≤ _; omega⟩, hts _ hst⟩ ⟨z_blind, z_pre X hP hu hsz hS⟩ rfl hlen hl.2.1 e1 (lv_room (by omega)) hd ⟨by omega, by omega⟩
  · exact va_runSN X.1 hM ⟨va_cnB as.length hts (z_good_cons hcode) rfl rfl rfl (X.2.1.2.1 _ hlink) (hts _ hini) ⟨(z_pl_ne hpl).1, (z_pl_ne hpl).2, hnp⟩ ⟨hR.1, by show 8 + (ml + 11) + 50 * d ≤ _; omega⟩, hts _ hst, trivial⟩ ⟨z_blind, z_pre X hP hu hsz hS⟩ rfl hlen hl.2.1 e1 (lv_room (by omega)) hd ⟨by omega, by omega⟩
theorem z_s_init (X : z_C p s m args c cc own nL D cA O A base n0) {d idx ml q : Nat} {y : MethodName} {bs : ByteArray} {as : List ZV} {r : ZV} {τ : ZM} (hM : z_Met l D cA O A base d y bs ml none (vr q :: as) σ r τ) (hm1 : z_sz σ ≤ z_sz τ) (hm2 : z_sw σ ≤ z_sw τ) (hcode : Cond.code y bs ml none ∈ z_tb) (hml : ml ≤ 30) (hR : d + 1 ≤ R.frames ∧ 50 * d + 50 ≤ R.locals) (hRc : z_sz τ ≤ n0 + R.cells) (hRw : z_sw τ ≤ w0 + R.slots) (hcat : z_cat S ≤ 8)
    (hini : Cond.initialized y.cls ∈ z_tb) (hpl : z_pl y.cls = true) (hlink : Cond.methodLink own idx y ∈ z_tb ∨ (own, idx, y, "BreatheAsOne") ∈ z_nest) (hst : Cond.instanceMethod y ∈ z_tb) (hnm : y.name = "<init>") (hnp : z_np y.desc = some as.length) (hq : q ≠ 0) (hq9 : q ≠ 9) (hd : decode cc pc = .ok (.invokespecial idx, 3)) (w : z_W p l e R s m args below meth c Q D cA O A base n0 w0 nL (pc + 3) L S τ) : z_W p l e R s m args below meth c Q D cA O A base n0 w0 nL pc L ((vr q :: as).reverse ++ S) σ := by
  refine z_s_run X (as := vr q :: as) (so := 4) (r := r) (τ := τ) hm1 hm2 (fun H locs ls hP hu hsz hS hl hn hw => ?_) w
  rcases X.2.2.1 q with h | ⟨a, h⟩
  · exact ((X.2.2.2.1.2 q h).elim hq hq9).elim
  have e0 : (vr q :: as).map (z_cv A) = .ref a :: as.map (z_cv A) := by rw [List.map_cons, show z_cv A (vr q) = A q from rfl, h]
  have e1 : ((vr q :: as).reverse ++ S).map (z_cv A) = (as.map (z_cv A)).reverse ++ .ref a :: S.map (z_cv A) := by
    rw [List.map_append, List.map_reverse, e0, List.reverse_cons, List.append_assoc]; rfl
  have hlen : (as.map (z_cv A)).length = as.length := List.length_map ..
  have hc := z_cat_eq X.2.2.1 S
  have hts : ∀ w ∈ z_tb, w.before args s = true := X.1.2.2.2.2
  have hpre := z_pre X (as := vr q :: as) hP hu hsz hS
  rw [e0] at hpre ⊢
  rcases hlink with hlink | hlink
  · exact va_runI X.1 hM (cwI as.length hts (z_good_cons hcode) rfl rfl rfl (hts _ hini) (hts _ hlink) (hts _ hst) hnm ⟨(z_pl_ne hpl).1, (z_pl_ne hpl).2, hnp⟩ ⟨hR.1, by show 8 + (ml + 11) + 50 * d ≤ _; omega⟩) ⟨z_blind, hpre⟩ rfl hlen hl.2.1 e1 (lv_room (by omega)) hd ⟨by omega, by omega⟩
  · exact va_runIN X.1 hM ⟨va_cnB as.length hts (z_good_cons hcode) rfl rfl rfl (X.2.1.2.1 _ hlink) (hts _ hini) ⟨(z_pl_ne hpl).1, (z_pl_ne hpl).2, hnp⟩ ⟨hR.1, by show 8 + (ml + 11) + 50 * d ≤ _; omega⟩, hnm, hts _ hst⟩ ⟨z_blind, hpre⟩ rfl hlen hl.2.1 e1 (lv_room (by omega)) hd ⟨by omega, by omega⟩
theorem z_s_virt (X : z_C p s m args c cc own nL D cA O A base n0) {d idx ml q : Nat} {y : MethodName} {bs : ByteArray} {rt : Option FieldType} {as : List ZV} {r : ZV} {τ : ZM} (hM : z_Met l D cA O A base d y bs ml rt (vr q :: as) σ r τ) (hm1 : z_sz σ ≤ z_sz τ) (hm2 : z_sw σ ≤ z_sw τ) (hcode : Cond.code y bs ml rt ∈ z_tb) (hml : ml ≤ 30) (hR : d + 1 ≤ R.frames ∧ 50 * d + 50 ≤ R.locals) (hRc : z_sz τ ≤ n0 + R.cells) (hRw : z_sw τ ≤ w0 + R.slots) (hcat : z_cat S ≤ 8)
    (hini : Cond.initialized y.cls ∈ z_tb) (hpl : z_pl y.cls = true) (hlink : Cond.methodLink own idx y ∈ z_tb) (hst : Cond.instanceMethod y ∈ z_tb) (hsel : Cond.selects y.cls y y ∈ z_tb) (hnp : z_np y.desc = some as.length) (hq : (∃ i, i < 12 ∧ y.cls = z_R i ∧ z_kd σ q = i + 1) ∨ (y.cls = "java/lang/String" ∧ z_kd σ q = 13)) (hd : decode cc pc = .ok (.invokevirtual idx, 3)) (w : z_W p l e R s m args below meth c Q D cA O A base n0 w0 nL (pc + 3) L (if z_rs rt = 4 then S else r :: S) τ) : z_W p l e R s m args below meth c Q D cA O A base n0 w0 nL pc L ((vr q :: as).reverse ++ S) σ := by
  refine z_s_run X (as := vr q :: as) (so := z_rs rt) (r := r) (τ := τ) hm1 hm2 (fun H locs ls hP hu hsz hS hl hn hw => ?_) w
  have hrec : ∃ a, A q = .ref a ∧ ∃ cellB : Cell, H[a]? = some cellB ∧ cellB.vm.isStatics = false ∧ s.vm.findClass y.cls = some cellB.cls := by
    rcases hq with ⟨i, hi, hy, hk⟩ | ⟨hy, hk⟩
    · obtain ⟨h1, h2⟩ := z_fresh (r := q) hu X.2.2.2.2.2.2.2 (by omega) (by omega) (by omega) (by omega)
      refine ⟨_, X.2.2.2.2.1 q h1, ?_⟩
      rw [hy]
      exact va_recv (fs := z_fs A σ q i) X.2.1.1 hP (z_cl hi) (by rw [z_ws_at h1 h2, z_cell_obj hi hk])
    · rcases Nat.lt_or_ge q 10 with h10 | h10
      · have eO := hu.2.2.1 q h10
        have hO : z_kd O q = 13 := by rw [← eO.1]; exact hk
        obtain ⟨a, ha, -, -, h3⟩ := X.2.1.2.2.2.2.2.2.2.2.2 q h10 (by rw [hO]; decide)
        obtain ⟨cell, c1, c2, c3, c4⟩ := (h3 hO).1
        refine ⟨a, ha, cell, ?_, c2, by rw [hy]; exact c3⟩
        rw [hS.2.1 a (Array.getElem?_eq_some_iff.mp c1).1 c4]
        exact c1
      · exact absurd hk (hu.2.2.2.1 q h10)
  obtain ⟨a, h, hcell⟩ := hrec
  have e0 : (vr q :: as).map (z_cv A) = .ref a :: as.map (z_cv A) := by rw [List.map_cons, show z_cv A (vr q) = A q from rfl, h]
  have e1 : ((vr q :: as).reverse ++ S).map (z_cv A) = (as.map (z_cv A)).reverse ++ .ref a :: S.map (z_cv A) := by
    rw [List.map_append, List.map_reverse, e0, List.reverse_cons, List.append_assoc]; rfl
  have hlen : (as.map (z_cv A)).length = as.length := List.length_map ..
  have hc := z_cat_eq X.2.2.1 S
  have hts : ∀ w ∈ z_tb, w.before args s = true := X.1.2.2.2.2
  have hpre := z_pre X (as := vr q :: as) hP hu hsz hS
  rw [e0] at hpre ⊢
  exact va_runV X.1 hM ⟨callB_of as.length hts (z_good_cons hcode) rfl rfl rfl (hts _ hini) (hts _ hlink) ⟨(z_pl_ne hpl).1, (z_pl_ne hpl).2, hnp⟩ ⟨hR.1, by show 8 + (ml + 11) + 50 * d ≤ _; omega⟩, hts _ hst, hts _ hsel⟩ ⟨z_blind, hcell, hpre⟩ rfl hlen hl.2.1 e1 (lv_room (by omega)) hd ⟨by omega, by omega⟩
end ZINV

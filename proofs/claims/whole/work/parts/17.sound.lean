/-! a call of the small machine is a call of the machine -/
section ZSND
variable {p : Program} {l : Launch} {e : Env} {R : Room} {s : State} {m : MethodId} {args : Array Value} {below : List Frame} {meth : Method} {c : Code} {Q : State → Prop} {cc : ByteArray} {own : String} {nL : Nat} {D : va_G} {cA : Nat → ClassId} {O : ZM} {A : Nat → Value} {base n0 w0 : Nat} {pc : Nat} {L : ZL} {S : List ZV} {σ : ZM} {d : ZD} {cl : Nat → List ZV → ZM → ZR} {dd : Nat} {rF : ZV} {σF : ZM} {ini : Bool} {f p1 p2 p3 p4 qq ss nn : Nat → Nat}
theorem z_seg_ok (X : z_C p s m args c cc own nL D cA O A base n0) (hlk : z_lk own d.1 f p1 p2 p3 p4 qq ss nn) (hcl : z_cm l D cA O A base dd cl) (hR : dd + 1 ≤ R.frames ∧ 50 * dd + 50 ≤ R.locals) (hRc : z_sz σF ≤ n0 + R.cells) (hRw : z_sw σF ≤ w0 + R.slots) (hini : ini = true → meth.name = "<init>")
    (hchk : ∀ pc, z_chk own ini d.1 cc d.2.1 pc = true) (hcut : ∀ pc, z_chu d.2.2.1 nL pc = true) (hret : ∀ pc L {S}, z_end cc d.2.2.2.1 rF pc S → z_W p l e R s m args below meth c Q D cA O A base n0 w0 nL pc L S σF) {back : ZK}
    (hback : ∀ pc' L' S' σ', L'.length = nL → back pc' L' S' σ' = some (rF, σF) → z_sz σ' ≤ z_sz σF ∧ z_sw σ' ≤ z_sw σF ∧ z_W p l e R s m args below meth c Q D cA O A base n0 w0 nL pc' L' S' σ') :
    ∀ (n pc : Nat) (L : ZL) (S : List ZV) (σ : ZM), L.length = nL → z_seg d cl back n pc L S σ = some (rF, σF) → z_sz σ ≤ z_sz σF ∧ z_sw σ ≤ z_sw σF ∧ z_W p l e R s m args below meth c Q D cA O A base n0 w0 nL pc L S σ
  | 0, pc, L, S, σ, hL, h => by cases h
  | n + 1, pc, L, S, σ, hL, h => by
    rw [z_seg_s] at h
    have hc := hchk pc
    unfold z_chk at hc
    cases hi : d.2.1 pc with
    | none => rw [hi] at h; cases h
    | some q =>
      obtain ⟨i, len⟩ := q
      rw [hi] at h hc
      dsimp only at h hc
      simp only [Bool.and_eq_true, decide_eq_true_eq] at hc
      obtain ⟨⟨⟨h1, h2⟩, h3⟩, h4⟩ := hc
      refine z_step_ok X hlk hcl hR hRc hRw hini hret h1 h2 h3 h4 (fun pc' L' S' σ' hL' h' => ?_) hL h
      unfold z_go at h'
      have hu := hcut pc'
      unfold z_chu at hu
      cases hb : d.2.2.1 pc' with
      | none =>
        rw [hb] at h'
        exact z_seg_ok X hlk hcl hR hRc hRw hini hchk hcut hret hback n pc' L' S' σ' hL' h'
      | some b =>
        rw [hb] at h' hu
        dsimp only at h' hu
        have hbl : b.length = nL := by simpa using hu
        have g := hback pc' (z_cut b L') S' σ' (by rw [z_cut_len _ _ (by rw [hbl, hL'])]; exact hL') h'
        exact ⟨g.1, g.2.1, fun H locs ls hP hu hS hl hn hw => g.2.2 H locs ls hP hu hS (z_lv_cut hl hbl) hn hw⟩
theorem z_run_ok (X : z_C p s m args c cc own nL D cA O A base n0) (hlk : z_lk own d.1 f p1 p2 p3 p4 qq ss nn) (hcl : z_cm l D cA O A base dd cl) (hR : dd + 1 ≤ R.frames ∧ 50 * dd + 50 ≤ R.locals) (hRc : z_sz σF ≤ n0 + R.cells) (hRw : z_sw σF ≤ w0 + R.slots) (hini : ini = true → meth.name = "<init>")
    (hchk : ∀ pc, z_chk own ini d.1 cc d.2.1 pc = true) (hcut : ∀ pc, z_chu d.2.2.1 nL pc = true) (hret : ∀ pc L {S}, z_end cc d.2.2.2.1 rF pc S → z_W p l e R s m args below meth c Q D cA O A base n0 w0 nL pc L S σF) :
    ∀ (n pc : Nat) (L : ZL) (S : List ZV) (σ : ZM), L.length = nL → z_run d cl n pc L S σ = some (rF, σF) → z_sz σ ≤ z_sz σF ∧ z_sw σ ≤ z_sw σF ∧ z_W p l e R s m args below meth c Q D cA O A base n0 w0 nL pc L S σ
  | 0, pc, L, S, σ, hL, h => by cases h
  | n + 1, pc, L, S, σ, hL, h => by
    rw [z_run_s] at h
    exact z_seg_ok X hlk hcl hR hRc hRw hini hchk hcut hret (fun pc' L' S' σ' hL' h' => z_run_ok X hlk hcl hR hRc hRw hini hchk hcut hret n pc' L' S' σ' hL' h') 3000 pc L S σ hL h
theorem z_w_ok (X : z_C p s m args c cc own nL D cA O A base n0) (hlk : z_lk own d.1 f p1 p2 p3 p4 qq ss nn) (hcl : z_cm l D cA O A base dd cl) (hR : dd + 1 ≤ R.frames ∧ 50 * dd + 50 ≤ R.locals) (hRc : z_sz σF ≤ n0 + R.cells) (hRw : z_sw σF ≤ w0 + R.slots) (hini : ini = true → meth.name = "<init>")
    (hchk : ∀ pc, z_chk own ini d.1 cc d.2.1 pc = true) (hcut : ∀ pc, z_chu d.2.2.1 nL pc = true) (hret : ∀ pc L {S}, z_end cc d.2.2.2.1 rF pc S → z_W p l e R s m args below meth c Q D cA O A base n0 w0 nL pc L S σF) (hL : L.length = nL) (h : z_w d cl pc L S σ = some (rF, σF)) : z_sz σ ≤ z_sz σF ∧ z_sw σ ≤ z_sw σF ∧ z_W p l e R s m args below meth c Q D cA O A base n0 w0 nL pc L S σ := by
  obtain ⟨n, h⟩ := z_w_some.mp h
  exact z_run_ok X hlk hcl hR hRc hRw hini hchk hcut hret n pc L S σ hL h
end ZSND
theorem z_ini_len : ∀ (as : List ZV) (n : Nat), z_cat as ≤ n → (z_ini as n).length = n
  | [], 0, _ => rfl
  | [], n + 1, _ => by simp only [z_ini, List.length_cons, z_ini_len [] n (Nat.zero_le _)]
  | .inr (.inl x) :: as, 0, h => by simp only [z_cat] at h; omega
  | .inr (.inl x) :: as, 1, h => by simp only [z_cat] at h; omega
  | .inr (.inl x) :: as, n + 2, h => by
    simp only [z_cat] at h
    simp only [z_ini, List.length_cons, z_ini_len as n (by omega)]
  | .inl x :: as, 0, h => by simp only [z_cat] at h; omega
  | .inl x :: as, n + 1, h => by
    simp only [z_cat] at h
    simp only [z_ini, List.length_cons, z_ini_len as n (by omega)]
  | .inr (.inr x) :: as, 0, h => by simp only [z_cat] at h; omega
  | .inr (.inr x) :: as, n + 1, h => by
    simp only [z_cat] at h
    simp only [z_ini, List.length_cons, z_ini_len as n (by omega)]
theorem z_ini_get {A : Nat → Value} (hA : ∀ r, A r = .null ∨ ∃ a, A r = .ref a) : ∀ (as : List ZV) (n i : Nat) (v : ZV), z_lg (z_ini as n) i = some v → (lg_sl (as.map (z_cv A)))[i]? = some (.val (z_cv A v))
  | [], 0, i, v, h => by cases h
  | [], n + 1, 0, v, h => by cases h
  | [], n + 1, i + 1, v, h => z_ini_get hA [] n i v h
  | .inr (.inl x) :: as, 0, i, v, h => by cases h
  | .inr (.inl x) :: as, 1, 0, v, h => by
    cases h; rfl
  | .inr (.inl x) :: as, 1, i + 1, v, h => by
    have h' : z_lg (z_ini as 0) i = some v := h
    cases as with
    | nil => cases h'
    | cons a as =>
      match a, h' with
      | .inl _, h' => cases h'
      | .inr (.inl _), h' => cases h'
      | .inr (.inr _), h' => cases h'
  | .inr (.inl x) :: as, n + 2, 0, v, h => by cases h; rfl
  | .inr (.inl x) :: as, n + 2, 1, v, h => by cases h
  | .inr (.inl x) :: as, n + 2, i + 2, v, h => z_ini_get hA as n i v h
  | .inl x :: as, 0, i, v, h => by cases h
  | .inl x :: as, n + 1, 0, v, h => by cases h; rfl
  | .inl x :: as, n + 1, i + 1, v, h => z_ini_get hA as n i v h
  | .inr (.inr x) :: as, 0, i, v, h => by cases h
  | .inr (.inr x) :: as, n + 1, i, v, h => by
    have e : lg_sl ((.inr (.inr x) :: as : List ZV).map (z_cv A)) = .val (A x) :: lg_sl (as.map (z_cv A)) := by
      show lg_sl (A x :: as.map (z_cv A)) = _
      unfold lg_sl
      rw [List.flatMap_cons]
      rcases hA x with q | ⟨a, q⟩ <;> rw [q] <;> rfl
    rw [e]
    cases i with
    | zero => cases h; rfl
    | succ i => exact z_ini_get hA as n i v h
theorem z_sl_len {A : Nat → Value} (hA : ∀ r, A r = .null ∨ ∃ a, A r = .ref a) : ∀ as : List ZV, (lg_sl (as.map (z_cv A))).length = z_cat as
  | [] => rfl
  | v :: as => by
    have ih := z_sl_len hA as
    have hc := z_cv_cat hA v
    unfold lg_sl at ih ⊢
    rw [List.map_cons, List.flatMap_cons, List.length_append, ih, hc]
    match v with
    | .inl x => show 1 + z_cat as = z_cat as + 1; omega
    | .inr (.inl x) => show 2 + z_cat as = z_cat as + 2; omega
    | .inr (.inr x) => show 1 + z_cat as = z_cat as + 1; omega
theorem z_entry {A : Nat → Value} (hA : ∀ r, A r = .null ∨ ∃ a, A r = .ref a) {as : List ZV} {n : Nat} (h : z_cat as ≤ n) : z_lv A ((lg_sl (as.map (z_cv A)) ++ List.replicate (n - (lg_sl (as.map (z_cv A))).length) Slot.unset).toArray) n (z_ini as n) := by
  have he := lv_entry (as.map (z_cv A)) (n := n) (by rw [z_sl_len hA]; exact h)
  refine ⟨z_ini_len as n h, he.1, he.2.1, fun i v hi => ?_⟩
  have hg := z_ini_get hA as n i v hi
  have hl := (List.getElem?_eq_some_iff.mp hg).1
  rw [List.getElem?_toArray, List.getElem?_append_left hl]
  exact hg
theorem z_ofW {l : Launch} {y : MethodName} {ws ws' : List Cond} {rm : Room} {Pc : Array Value → State → Prop} {Qc : Array Value → State → Outcome → State → Prop} {mc ms : Nat} {free : Addr → Prop} {cc : ByteArray} {maxL : Nat} {ret : Option FieldType}
    (hy : plainFor y = true) (hw : ws = Cond.code y cc maxL ret :: ws')
    (body : ∀ p e s m args below meth c s₁, BodyLoose p l y (headSpec ws rm) cc maxL ret e s m args below meth c s₁ → c.maxLocals = maxL → Pc args s →
      W p l e (headSpec ws rm).room s m args below meth c s.heap [] 0 0 (MQ below Qc args s mc ms free) (entryFrame m args maxL)) : Met l y ws rm Pc Qc mc ms free := by
  refine MetFree.of_bodySF (code := cc) (maxLocals := maxL) (ret := ret) hy (fun args s m h hn => ?_) (fun p e s m args below meth c s₁ B hml hP _ => ?_)
  · obtain ⟨meth, c, h1, h2, h3, h4, h5, h6, -, -⟩ := Cond.code_spec hn (atoms_spec (ws := ws) h _ (by rw [hw]; exact List.mem_cons_self))
    exact ⟨meth, c, h1, h2, h3, h4, h5, h6⟩
  · obtain ⟨t, a1, o, b1, b2, b3⟩ := body p e s m args below meth c s₁ B hml hP s₁ (by rw [B.state]; rfl) (Stand.of_body B)
    exact ⟨t, o, a1, b1, b2, ⟨b3.1, b3.2⟩⟩
/-- what is fixed for all methods -/
def z_Aok (O : ZM) (A : Nat → Value) (base : Nat) : Prop := (∀ r, A r = .null ∨ ∃ a, A r = .ref a) ∧ ((∀ r, r = 0 → A r = .null) ∧ ∀ r, A r = .null → r = 0 ∨ r = 9) ∧ (∀ r, 10 ≤ r → A r = .ref (base + (r - 10))) ∧ z_pO O
theorem z_init_name {b : Bool} {s : String} (hb : (s == "<init>") = b) (h : b = true) : s = "<init>" := by
  rw [← hb] at h; simpa using h
set_option maxHeartbeats 4000000 in
theorem z_met {l : Launch} {D : va_G} {cA : Nat → ClassId} {O : ZM} {A : Nat → Value} {base dd mn : Nat} {d : ZD} {cl : Nat → List ZV → ZM → ZR} (hA : z_Aok O A base) (hg : z_good mn d) (hcl : z_cm l D cA O A base dd cl) {as : List ZV} {σ τ : ZM} {r : ZV} (hs : z_cat as ≤ d.2.2.2.2) (h : z_w d cl 0 (z_ini as d.2.2.2.2) [] σ = some (r, τ)) :
    ∃ y bs ml rt, z_inf mn = some (y, bs, ml, rt) ∧ Cond.code y bs ml rt ∈ z_tb ∧ ml ≤ 30 ∧ z_Met l D cA O A base (dd + 1) y bs ml rt as σ r τ := by
  obtain ⟨y, bs, rt, f, p1, p2, p3, p4, q, ss, nn, hinf, hcode, hso, hpl, hml, hlk, hchk, hcut⟩ := hg
  refine ⟨y, bs, _, rt, hinf, z_has_in hcode, hml, ?_⟩
  refine z_ofW (cc := bs) (maxL := d.2.2.2.2) (ret := rt) hpl rfl ?_
  intro p e s m args below meth c s₁ B hml2 hv
  obtain ⟨rfl, hP, hu, hsz, hfix⟩ := hv
  have hts : ∀ w ∈ (Cond.code y bs d.2.2.2.2 rt :: z_tb), w.before _ s = true := atoms_spec (ws := Cond.code y bs d.2.2.2.2 rt :: z_tb) B.pre
  have X : z_C p s m _ c bs y.cls d.2.2.2.2 D cA O A base (z_sz σ) := ⟨⟨B.exec, B.bytes, hml2, findClass_of_methodNamed B.named, fun w hw => hts w (List.mem_cons_of_mem _ hw)⟩, hfix, hA.1, hA.2.1, hA.2.2.1, hsz, hu.1, hA.2.2.2⟩
  have hname := (name_of_methodNamed B.named B.method).1
  have hlocks := B.notSynchronized
  have hrt := B.returns
  have G := z_w_ok (l := l) (e := e) (R := (headSpec (Cond.code y bs d.2.2.2.2 rt :: z_tb) (z_rm (dd + 1) (z_sz τ - z_sz σ) (z_sw τ - z_sw σ))).room) (below := below) (meth := meth) (Q := MQ below (z_Qc D cA O A base (z_rs rt) r τ) (as.map (z_cv A)).toArray s (z_sz τ - z_sz σ) (z_sw τ - z_sw σ) (z_B base)) (w0 := z_sw σ) (rF := r) (σF := τ) (ini := (y.name == "<init>")) X hlk hcl ⟨by show dd + 1 ≤ dd + 1; omega, by show 50 * dd + 50 ≤ 50 * (dd + 1); omega⟩ (by show z_sz τ ≤ z_sz σ + (z_sz τ - z_sz σ); omega) (by show z_sw τ ≤ z_sw σ + (z_sw τ - z_sw σ); omega) (fun hb => by rw [hname]; exact z_init_name rfl hb) hchk hcut ?_ (z_ini_len as _ hs) h
  · rw [lg_entry_eq]
    have w := G.2.2 s.heap [] _ hP hu va_S.rf (z_entry hA.1 hs) (Nat.le_refl _) (Nat.le_refl _)
    rw [Nat.sub_self, Nat.sub_self] at w
    exact w
  · intro pc L S he H locs ls hP2 hu2 hS hl hn hw
    have hq : ∀ v, z_rv A (z_rs rt) r = v → ∀ t : State, t.heap = H → s.WarmedH t.vm → z_Qc D cA O A base (z_rs rt) r τ (as.map (z_cv A)).toArray s (.returned v) t := by
      intro v hv t ht hW
      exact ⟨by rw [hv], by rw [ht]; exact hP2, hu2, hS.F ht⟩
    have hf : ∀ q ∈ locs, z_B base q.base := hS.2.2
    rw [hso] at he
    rcases he with ⟨hd, x, rfl, hfit, rfl⟩ | ⟨hd, x, rfl, hso2, rfl⟩ | ⟨hd, x, rfl, hso2, rfl⟩ | ⟨hd, rfl, hso2, rfl⟩
    · cases rt with
      | none => cases hfit
      | some ty =>
        cases ty with
        | int => exact W.iret B.exec B.bytes hrt (hq _ rfl) hf hd
        | boolean =>
          refine W.zret B.exec B.bytes hrt ?_ (hq _ rfl) hf hd
          have : x = 0 ∨ x = 1 := by simpa [z_fit, z_rs] using hfit
          rcases this with rfl | rfl <;> rfl
        | char =>
          refine W.zret B.exec B.bytes hrt ?_ (hq _ rfl) hf hd
          have e : (x.toUInt32 % 65536).toInt32 = x := by simpa [z_fit, z_rs] using hfit
          have := pk_nc x
          rw [e] at this
          exact this
        | byte =>
          refine W.zret B.exec B.bytes hrt ?_ (hq _ rfl) hf hd
          have e : x.toInt8.toInt32 = x := by simpa [z_fit, z_rs] using hfit
          show Value.int x.toInt8.toInt32 = .int x
          rw [e]
        | _ => cases hfit
    · cases rt with
      | none => cases hso2
      | some ty =>
        cases ty with
        | long => exact W.lret B.exec B.bytes hrt (hq _ rfl) hf hd
        | _ => cases hso2
    · cases rt with
      | none => cases hso2
      | some ty =>
        cases ty with
        | object n => exact W.aret B.exec B.bytes hrt (Or.inl ⟨n, rfl⟩) (hA.1 x) (hq _ rfl) hf hd
        | array t => exact W.aret B.exec B.bytes hrt (Or.inr ⟨t, rfl⟩) (hA.1 x) (hq _ rfl) hf hd
        | _ => cases hso2
    · cases rt with
      | none => exact W.vret B.exec B.bytes hrt (hq _ rfl) hf hd
      | some ty => cases ty <;> cases hso2

/-! a step of the small machine is a walk of the machine -/
theorem z_g_some {b : Bool} {x : ZR} {r : ZV × ZM} (h : z_g b x = some r) : b = true ∧ x = some r := by
  cases b
  · cases h
  · exact ⟨rfl, h⟩
theorem z_jmp_some {pc : Nat} {off : Int} {f : Nat → ZR} {r : ZV × ZM} (h : z_jmp pc off f = some r) : ∃ t : Nat, (pc : Int) + off = (t : Int) ∧ f t = some r := by
  unfold z_jmp at h
  split at h
  · rename_i t e
    exact ⟨t, e, h⟩
  · cases h
theorem z_bI_some {x : ZR} {f : Int32 → ZM → ZR} {r : ZV × ZM} (h : z_bI x f = some r) : ∃ v τ, x = some (vi v, τ) ∧ f v τ = some r := by
  unfold z_bI at h
  split at h
  · exact ⟨_, _, rfl, h⟩
  · cases h
theorem z_bL_some {x : ZR} {f : Int64 → ZM → ZR} {r : ZV × ZM} (h : z_bL x f = some r) : ∃ v τ, x = some (vl v, τ) ∧ f v τ = some r := by
  unfold z_bL at h
  split at h
  · exact ⟨_, _, rfl, h⟩
  · cases h
theorem z_bR_some {x : ZR} {f : Nat → ZM → ZR} {r : ZV × ZM} (h : z_bR x f = some r) : ∃ v τ, x = some (vr v, τ) ∧ f v τ = some r := by
  unfold z_bR at h
  split at h
  · exact ⟨_, _, rfl, h⟩
  · cases h
theorem z_bV_some {x : ZR} {f : ZM → ZR} {r : ZV × ZM} (h : z_bV x f = some r) : ∃ v τ, x = some (vi v, τ) ∧ f τ = some r := by
  unfold z_bV at h
  split at h
  · exact ⟨_, _, rfl, h⟩
  · cases h
theorem z_take_some : ∀ (n : Nat) (S acc as rest : List ZV), z_take n S acc = some (as, rest) → ∃ fr, as = fr ++ acc ∧ fr.length = n ∧ S = fr.reverse ++ rest
  | 0, S, acc, as, rest, h => by
    have h' : some (acc, S) = some (as, rest) := by cases S <;> exact h
    cases h'
    exact ⟨[], rfl, rfl, rfl⟩
  | n + 1, [], acc, as, rest, h => by cases h
  | n + 1, v :: S, acc, as, rest, h => by
    obtain ⟨fr, h1, h2, h3⟩ := z_take_some n S (v :: acc) as rest h
    refine ⟨fr ++ [v], by rw [h1, List.append_assoc]; rfl, by rw [List.length_append, h2]; rfl, ?_⟩
    rw [List.reverse_append, h3]; rfl
theorem z_inv_some {cl : Nat → List ZV → ZM → ZR} {mn na rk ck nx : Nat} {L : ZL} {S : List ZV} {σ : ZM} {k : ZK} {res : ZV × ZM} (h : z_inv cl (some (mn, na, rk, ck)) nx L S σ k = some res) :
    ∃ as rest r τ, S = as.reverse ++ rest ∧ as.length = na ∧ z_cat rest ≤ 8 ∧ z_rcv ck as σ = true ∧ cl mn as σ = some (r, τ) ∧ k nx L (if rk = 4 then rest else r :: rest) τ = some res := by
  unfold z_inv at h
  dsimp only at h
  cases ht : z_take na S [] with
  | none => rw [ht] at h; cases h
  | some q =>
    obtain ⟨as, rest⟩ := q
    rw [ht] at h
    obtain ⟨fr, h1, h2, h3⟩ := z_take_some _ _ _ _ _ ht
    rw [List.append_nil] at h1
    subst h1
    obtain ⟨hb, h⟩ := z_g_some h
    rw [Bool.and_eq_true] at hb
    refine ⟨as, rest, ?_⟩
    split at h
    · obtain ⟨v, τ, e, h⟩ := z_bL_some h
      exact ⟨vl v, τ, h3, h2, Nat.le_of_ble_eq_true hb.1, hb.2, e, h⟩
    · obtain ⟨v, τ, e, h⟩ := z_bR_some h
      exact ⟨vr v, τ, h3, h2, Nat.le_of_ble_eq_true hb.1, hb.2, e, h⟩
    · obtain ⟨v, τ, e, h⟩ := z_bV_some h
      exact ⟨vi v, τ, h3, h2, Nat.le_of_ble_eq_true hb.1, hb.2, e, h⟩
    · rename_i n2 n3 n4
      obtain ⟨v, τ, e, h⟩ := z_bI_some h
      exact ⟨vi v, τ, h3, h2, Nat.le_of_ble_eq_true hb.1, hb.2, e, by rw [if_neg n4]; exact h⟩
theorem z_sw1_some {x : Int32} {pc : Nat} {f : Nat → ZR} {dflt : Int} {res : ZV × ZM} : ∀ (os : List Int) (lo : Int), z_sw1 x pc f dflt lo os = some res →
    (∃ (j : Nat) (off : Int) (t : Nat), os[j]? = some off ∧ x = Int32.ofInt (lo + j) ∧ (pc : Int) + off = (t : Int) ∧ f t = some res) ∨ ((∀ j : Nat, j < os.length → ¬ x = Int32.ofInt (lo + j)) ∧ ∃ t : Nat, (pc : Int) + dflt = (t : Int) ∧ f t = some res)
  | [], lo, h => Or.inr ⟨fun j hj => by simp at hj, z_jmp_some h⟩
  | o :: os, lo, h => by
    unfold z_sw1 at h
    split at h
    · rename_i e
      obtain ⟨t, h1, h2⟩ := z_jmp_some h
      exact Or.inl ⟨0, o, t, rfl, by rw [e]; congr 1; omega, h1, h2⟩
    · rename_i e
      rcases z_sw1_some os (lo + 1) h with ⟨j, off, t, h1, h2, h3, h4⟩ | ⟨h1, h2⟩
      · exact Or.inl ⟨j + 1, off, t, h1, by rw [h2]; congr 1; omega, h3, h4⟩
      · refine Or.inr ⟨fun j hj => ?_, h2⟩
        cases j with
        | zero => rw [show lo + ((0 : Nat) : Int) = lo by omega]; exact e
        | succ j =>
          have := h1 j (by simpa using hj)
          rw [show lo + 1 + (j : Int) = lo + ((j + 1 : Nat) : Int) by omega] at this
          exact this
theorem z_toInt {n : Int} (h1 : -2147483648 ≤ n) (h2 : n < 2147483648) : (Int32.ofInt n).toInt = n := Int32.toInt_ofInt_of_le h1 h2
theorem z_ofInt (x : Int32) : Int32.ofInt x.toInt = x := by simp
theorem z_rcv_100 {as : List ZV} {σ : ZM} (h : z_rcv 100 as σ = true) : ∃ q as', as = vr q :: as' ∧ q ≠ 0 ∧ q ≠ 9 := by
  match as, h with
  | .inr (.inr q) :: as', h => exact ⟨q, as', rfl, by simpa [z_rcv] using h⟩
  | .inr (.inl q) :: as', h => cases h
  | .inl q :: as', h => cases h
  | [], h => cases h
theorem z_rcv_k {ck : Nat} {as : List ZV} {σ : ZM} (h0 : ck ≠ 0) (h1 : ck ≠ 100) (h : z_rcv ck as σ = true) : ∃ q as', as = vr q :: as' ∧ z_kd σ q = ck := by
  unfold z_rcv at h
  split at h
  · exact absurd rfl h0
  · exact absurd rfl h1
  · match as, h with
    | .inr (.inr q) :: as', h => exact ⟨q, as', rfl, by simpa using h⟩
    | .inr (.inl q) :: as', h => cases h
    | .inl q :: as', h => cases h
    | [], h => cases h
/-- what a call's run says -/
def z_cm (l : Launch) (D : va_G) (cA : Nat → ClassId) (O : ZM) (A : Nat → Value) (base d : Nat) (cl : Nat → List ZV → ZM → ZR) : Prop := ∀ mn as σ r τ, cl mn as σ = some (r, τ) → z_sz σ ≤ z_sz τ ∧ z_sw σ ≤ z_sw τ ∧ (mn = 0 → ∃ q, as = [vr q] ∧ q ≠ 0 ∧ q ≠ 9 ∧ τ = σ) ∧ (mn = 1 → z_copy as σ = some (r, τ)) ∧ (mn = 2 → z_clone as σ = some (r, τ)) ∧
  (3 ≤ mn → ∃ y bs ml rt, z_inf mn = some (y, bs, ml, rt) ∧ Cond.code y bs ml rt ∈ z_tb ∧ ml ≤ 30 ∧ z_Met l D cA O A base d y bs ml rt as σ r τ)
section ZSTEP
variable {p : Program} {l : Launch} {e : Env} {R : Room} {s : State} {m : MethodId} {args : Array Value} {below : List Frame} {meth : Method} {c : Code} {Q : State → Prop} {cc : ByteArray} {own : String} {nL : Nat} {D : va_G} {cA : Nat → ClassId} {O : ZM} {A : Nat → Value} {base n0 w0 : Nat} {pc : Nat} {L : ZL} {S : List ZV} {σ : ZM} {d : ZD} {cl : Nat → List ZV → ZM → ZR} {dd : Nat} {k : ZK} {rF : ZV} {σF : ZM} {ini : Bool} {f p1 p2 p3 p4 qq ss nn : Nat → Nat}
theorem z_ck_spec {c : String} {ck : Nat} (h : ck = z_ck c) (h0 : ck ≠ 0) : (∃ i, i < 12 ∧ c = z_R i ∧ ck = i + 1) ∨ (c = "java/lang/String" ∧ ck = 13) := by
  unfold z_ck at h
  by_cases e0 : c = z_R 0
  · rw [if_pos e0] at h; exact Or.inl ⟨0, by decide, e0, h⟩
  rw [if_neg e0] at h
  by_cases e1 : c = z_R 1
  · rw [if_pos e1] at h; exact Or.inl ⟨1, by decide, e1, h⟩
  rw [if_neg e1] at h
  by_cases e2 : c = z_R 2
  · rw [if_pos e2] at h; exact Or.inl ⟨2, by decide, e2, h⟩
  rw [if_neg e2] at h
  by_cases e3 : c = z_R 3
  · rw [if_pos e3] at h; exact Or.inl ⟨3, by decide, e3, h⟩
  rw [if_neg e3] at h
  by_cases e4 : c = z_R 4
  · rw [if_pos e4] at h; exact Or.inl ⟨4, by decide, e4, h⟩
  rw [if_neg e4] at h
  by_cases e5 : c = z_R 5
  · rw [if_pos e5] at h; exact Or.inl ⟨5, by decide, e5, h⟩
  rw [if_neg e5] at h
  by_cases e6 : c = z_R 6
  · rw [if_pos e6] at h; exact Or.inl ⟨6, by decide, e6, h⟩
  rw [if_neg e6] at h
  by_cases e7 : c = z_R 7
  · rw [if_pos e7] at h; exact Or.inl ⟨7, by decide, e7, h⟩
  rw [if_neg e7] at h
  by_cases e8 : c = z_R 8
  · rw [if_pos e8] at h; exact Or.inl ⟨8, by decide, e8, h⟩
  rw [if_neg e8] at h
  by_cases e9 : c = z_R 9
  · rw [if_pos e9] at h; exact Or.inl ⟨9, by decide, e9, h⟩
  rw [if_neg e9] at h
  by_cases e10 : c = z_R 10
  · rw [if_pos e10] at h; exact Or.inl ⟨10, by decide, e10, h⟩
  rw [if_neg e10] at h
  by_cases e11 : c = z_R 11
  · rw [if_pos e11] at h; exact Or.inl ⟨11, by decide, e11, h⟩
  rw [if_neg e11] at h
  by_cases e : c = "java/lang/String"
  · rw [if_pos e] at h; exact Or.inr ⟨e, h⟩
  · rw [if_neg e] at h; exact absurd h h0
/-- calls -/
theorem z_inv_ok (X : z_C p s m args c cc own nL D cA O A base n0) (hlk : z_lk own d.1 f p1 p2 p3 p4 qq ss nn) (hcl : z_cm l D cA O A base dd cl) (hR : dd + 1 ≤ R.frames ∧ 50 * dd + 50 ≤ R.locals) (hRc : z_sz σF ≤ n0 + R.cells) (hRw : z_sw σF ≤ w0 + R.slots) {idx : Nat} {op : Nat → Instr} (hop : (op = Instr.invokestatic ∧ z_chI own ini d.1 (.invokestatic idx) = true) ∨ (op = Instr.invokespecial ∧ z_chI own ini d.1 (.invokespecial idx) = true) ∨ (op = Instr.invokevirtual ∧ z_chI own ini d.1 (.invokevirtual idx) = true))
    (hd : decode cc pc = .ok (op idx, 3)) (hk : ∀ pc' L' S' σ', L'.length = nL → k pc' L' S' σ' = some (rF, σF) → z_sz σ' ≤ z_sz σF ∧ z_sw σ' ≤ z_sw σF ∧ z_W p l e R s m args below meth c Q D cA O A base n0 w0 nL pc' L' S' σ') (hL : L.length = nL)
    (h : z_inv cl (d.1.2.1 idx) (pc + 3) L S σ k = some (rF, σF)) : z_sz σ ≤ z_sz σF ∧ z_sw σ ≤ z_sw σF ∧ z_W p l e R s m args below meth c Q D cA O A base n0 w0 nL pc L S σ := by
  cases hm : d.1.2.1 idx with
  | none => rw [hm] at h; cases h
  | some q =>
    obtain ⟨mn, na, rk, ck⟩ := q
    rw [hm] at h
    obtain ⟨as, rest, r, τ, hS, hna, hcat, hrcv, hc, h⟩ := z_inv_some h
    obtain ⟨m1, m2, c0, c1, c2, c3⟩ := hcl _ _ _ _ _ hc
    obtain ⟨g1, g2, g3⟩ := hk _ _ _ _ hL h
    refine ⟨by omega, by omega, ?_⟩
    have hch := (hlk idx).2.1
    unfold z_chM at hch
    rw [hm] at hch
    dsimp only at hch
    subst hS
    have hR1 : 1 ≤ R.frames ∧ 40 ≤ R.locals := ⟨by omega, by omega⟩
    have hR2 : dd + 1 ≤ R.frames ∧ 50 * dd + 50 ≤ R.locals := ⟨by omega, by omega⟩
    match mn, c0, c1, c2, c3, hch, hm with
    | 0, c0, _, _, _, hch, hm =>
      obtain ⟨q, rfl, hq0, hq9, rfl⟩ := c0 rfl
      simp only [Bool.and_eq_true, beq_iff_eq] at hch
      obtain ⟨⟨⟨e1, e2⟩, e3⟩, e4⟩ := hch
      rw [if_pos e2] at g3
      rcases hop with ⟨rfl, hi⟩ | ⟨rfl, hi⟩ | ⟨rfl, hi⟩
      · simp [z_chI, hm] at hi
      · exact z_s_obj X hq0 hq9 (z_has_in e4) hcat hR1 hd g3
      · simp [z_chI, hm] at hi
    | 1, _, c1, _, _, hch, hm =>
      have c1 := c1 rfl
      simp only [Bool.and_eq_true, beq_iff_eq] at hch
      obtain ⟨⟨⟨e1, e2⟩, e3⟩, e4⟩ := hch
      rw [if_pos e2] at g3
      rcases hop with ⟨rfl, hi⟩ | ⟨rfl, hi⟩ | ⟨rfl, hi⟩
      · unfold z_copy at c1
        split at c1
        · rename_i a i b j n
          obtain ⟨hb, c1⟩ := z_g_some c1
          simp only [Bool.and_eq_true, beq_iff_eq, decide_eq_true_eq] at hb
          obtain ⟨⟨⟨⟨⟨⟨⟨⟨⟨b1, b2⟩, b3⟩, b4⟩, b5⟩, b6⟩, b7⟩, b8⟩, b9⟩, b10⟩ := hb
          cases c1
          exact z_s_acopy X b1 b2 (Nat.le_of_ble_eq_true b3) (Nat.le_of_ble_eq_true b4) b6 b7 b8 (Nat.le_of_ble_eq_true b9) (Nat.le_of_ble_eq_true b10) (z_has_in e4) hcat hR1 hd g3
        · cases c1
      · simp [z_chI, hm] at hi
      · simp [z_chI, hm] at hi
    | 2, _, _, c2, _, hch, hm =>
      have c2 := c2 rfl
      simp only [Bool.and_eq_true, beq_iff_eq] at hch
      obtain ⟨⟨⟨e1, e2⟩, e3⟩, e4⟩ := hch
      rw [if_neg (by omega)] at g3
      rcases hop with ⟨rfl, hi⟩ | ⟨rfl, hi⟩ | ⟨rfl, hi⟩
      · simp [z_chI, hm] at hi
      · simp [z_chI, hm] at hi
      · unfold z_clone at c2
        split at c2
        · rename_i a
          obtain ⟨hb, c2⟩ := z_g_some c2
          simp only [Bool.and_eq_true, beq_iff_eq] at hb
          cases c2
          rw [z_sz_cn] at g1
          rw [z_sw_cn] at g2
          exact z_s_clone X hb.1 (Nat.le_of_ble_eq_true hb.2) (z_has_in e4) hcat hR1 (by omega) (by omega) hd g3
        · cases c2
    | mn + 3, _, _, _, c3, hch, hm =>
      obtain ⟨y, bs, ml, rt, hinf, hcode, hml, hM⟩ := c3 (by omega)
      dsimp only at hch
      rw [hinf] at hch
      dsimp only at hch
      simp only [Bool.and_eq_true, beq_iff_eq] at hch
      obtain ⟨⟨⟨e1, e2⟩, e3⟩, e4⟩ := hch
      have e2 := z_has_in e2
      rw [e1] at g3
      split at e4
      · rename_i hk1
        simp only [Bool.and_eq_true, beq_iff_eq, Bool.or_eq_true] at e4
        obtain ⟨⟨⟨f1, f2⟩, f3⟩, f4⟩ := e4
        rcases hop with ⟨rfl, hi⟩ | ⟨rfl, hi⟩ | ⟨rfl, hi⟩
        · exact z_s_stat X hM m1 m2 hcode hml hR2 (by omega) (by omega) hcat e2 e3 (f2.elim (fun q => Or.inl (z_has_in q)) (fun q => Or.inr (of_decide_eq_true q))) (z_has_in f3) (by rw [f4, hna]) hd g3
        · simp [z_chI, hm, hk1] at hi
        · simp [z_chI, hm, hk1] at hi
      · rename_i hk1
        simp only [Bool.and_eq_true, beq_iff_eq, Bool.or_eq_true] at e4
        obtain ⟨⟨⟨⟨⟨⟨f1, f0⟩, f2⟩, f3⟩, f4⟩, f5⟩, f6⟩ := e4
        have f6 := Nat.le_of_ble_eq_true f6
        subst f1
        have hrt : rt = none := by
          rw [f0] at e1
          unfold z_rs at e1
          split at e1 <;> first | rfl | (exfalso; revert e1; decide)
        subst hrt
        rcases hop with ⟨rfl, hi⟩ | ⟨rfl, hi⟩ | ⟨rfl, hi⟩
        · simp [z_chI, hm, hk1] at hi
        · obtain ⟨q, as', rfl, hq0, hq9⟩ := z_rcv_100 hrcv
          exact z_s_init X hM m1 m2 hcode hml hR2 (by omega) (by omega) hcat e2 e3 (f2.elim (fun q => Or.inl (z_has_in q)) (fun q => Or.inr (of_decide_eq_true q))) (z_has_in f3) f4 (by rw [f5, ← hna]; rfl) hq0 hq9 hd g3
        · simp [z_chI, hm, hk1] at hi
      · rename_i hk1
        simp only [Bool.and_eq_true, beq_iff_eq, Bool.not_eq_true', beq_eq_false_iff_ne] at e4
        obtain ⟨⟨⟨⟨⟨⟨⟨f1, f0⟩, f00⟩, f2⟩, f3⟩, f4⟩, f5⟩, f6⟩ := e4
        have f6 := Nat.le_of_ble_eq_true f6
        rcases hop with ⟨rfl, hi⟩ | ⟨rfl, hi⟩ | ⟨rfl, hi⟩
        · simp [z_chI, hm, hk1] at hi
        · simp [z_chI, hm, hk1] at hi
        · obtain ⟨q, as', rfl, hkq⟩ := z_rcv_k f0 f00 hrcv
          have hq : (∃ i, i < 12 ∧ y.cls = z_R i ∧ z_kd σ q = i + 1) ∨ (y.cls = "java/lang/String" ∧ z_kd σ q = 13) := by
            rcases z_ck_spec f1 f0 with ⟨i, a1, a2, a3⟩ | ⟨a1, a2⟩
            · exact Or.inl ⟨i, a1, a2, by rw [hkq, a3]⟩
            · exact Or.inr ⟨a1, by rw [hkq, a2]⟩
          exact z_s_virt X hM m1 m2 hcode hml hR2 (by omega) (by omega) hcat e2 e3 (z_has_in f2) (z_has_in f3) (z_has_in f4) (by rw [f5, ← hna]; rfl) hq hd g3
      · cases e4
end ZSTEP

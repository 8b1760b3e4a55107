/-! THE PURE PART, 111: a call that ends so deep ends so deeper -/
def z_kl (k k' : ZK) : Prop := ∀ pc L S σ r, k pc L S σ = some r → k' pc L S σ = some r
def z_cle (c c' : Nat → List ZV → ZM → ZR) : Prop := ∀ n as σ r, c n as σ = some r → c' n as σ = some r
theorem z_inv_cl {c c' : Nat → List ZV → ZM → ZR} (hc : z_cle c c') {mt : Option (Nat × Nat × Nat × Nat)} {nx : Nat} {L : ZL} {S : List ZV} {σ : ZM} {k : ZK} {r : ZV × ZM} (h : z_inv c mt nx L S σ k = some r) : z_inv c' mt nx L S σ k = some r := by
  unfold z_inv at h ⊢
  cases mt with
  | none => cases h
  | some q =>
    obtain ⟨mn, na, rk, ck⟩ := q
    dsimp only at h ⊢
    cases e : z_take na S [] with
    | none => rw [e] at h; cases h
    | some w =>
      obtain ⟨as, rest⟩ := w
      rw [e] at h
      dsimp only at h ⊢
      cases hb : (Nat.ble (z_cat rest) 8 && z_rcv ck as σ) with
      | false => rw [hb] at h; cases h
      | true =>
        rw [hb] at h
        have key := hc mn as σ
        cases hx : c mn as σ with
        | none =>
          rw [hx] at h
          simp only [z_g, cond_true] at h
          split at h <;> cases h
        | some x =>
          rw [hx] at h
          rw [key x hx]
          exact h
theorem z_cl_step {c c' : Nat → List ZV → ZM → ZR} (hc : z_cle c c') {d : ZD} (i : Instr) {pc nx : Nat} {L : ZL} {S : List ZV} {σ : ZM} {k : ZK} {r : ZV × ZM} (h : z_step d c i pc nx L S σ k = some r) : z_step d c' i pc nx L S σ k = some r := by
  cases i <;> first
    | exact h
    | exact z_inv_cl hc h
theorem z_kl_step {c : Nat → List ZV → ZM → ZR} {d : ZD} (i : Instr) {pc nx : Nat} {L : ZL} {S : List ZV} {σ : ZM} {k k' : ZK} (hk : z_kl k k') {r : ZV × ZM} (h : z_step d c i pc nx L S σ k = some r) : z_step d c i pc nx L S σ k' = some r := by
  rcases z_tl_step d c i pc nx L S σ with ⟨x, e⟩ | ⟨pc', L', S', σ', e⟩
  · dsimp only at e; rw [e] at h ⊢; exact h
  · dsimp only at e; rw [e] at h ⊢; exact hk _ _ _ _ _ h
theorem z_cl_seg {c c' : Nat → List ZV → ZM → ZR} (hc : z_cle c c') {d : ZD} {b b' : ZK} (hb : z_kl b b') : ∀ n : Nat, z_kl (z_seg d c b n) (z_seg d c' b' n)
  | 0, _, _, _, _, _, h => by cases h
  | n + 1, pc, L, S, σ, r, h => by
    rw [z_seg_s] at h ⊢
    cases hq : d.2.1 pc with
    | none => rw [hq] at h; cases h
    | some q =>
      obtain ⟨i, len⟩ := q
      rw [hq] at h
      dsimp only at h ⊢
      refine z_kl_step i (fun pc' L' S' σ' r' h' => ?_) (z_cl_step hc i h)
      unfold z_go at h' ⊢
      cases hx : d.2.2.1 pc' with
      | none => rw [hx] at h'; exact z_cl_seg hc hb n _ _ _ _ _ h'
      | some y => rw [hx] at h'; exact hb _ _ _ _ _ h'
theorem z_cl_run {c c' : Nat → List ZV → ZM → ZR} (hc : z_cle c c') {d : ZD} : ∀ n : Nat, z_kl (z_run d c n) (z_run d c' n)
  | 0, _, _, _, _, _, h => by cases h
  | n + 1, pc, L, S, σ, r, h => by
    rw [z_run_s] at h ⊢
    exact z_cl_seg hc (z_cl_run hc n) 3000 _ _ _ _ _ h
theorem z_cl_w {c c' : Nat → List ZV → ZM → ZR} (hc : z_cle c c') {d : ZD} : z_kl (z_w d c) (z_w d c') := fun pc L S σ r h => by
  obtain ⟨n, hn⟩ := z_w_some.mp h
  exact z_w_some.mpr ⟨n, z_cl_run hc n _ _ _ _ _ hn⟩
theorem z_call_1 : ∀ d : Nat, z_cle (z_call d) (z_call (d + 1))
  | 0, _, _, _, _, h => by cases h
  | d + 1, n, as, σ, r, h => by
    match n, h with
    | 0, h => exact h
    | 1, h => exact h
    | 2, h => exact h
    | n + 3, h =>
      have h' : (match z_prog (n + 3) with | none => none | some m => z_g (Nat.ble (z_slots as) m.2.2.2.2) (z_w m (z_call d) 0 (z_ini as m.2.2.2.2) [] σ)) = some r := h
      show (match z_prog (n + 3) with | none => none | some m => z_g (Nat.ble (z_slots as) m.2.2.2.2) (z_w m (z_call (d + 1)) 0 (z_ini as m.2.2.2.2) [] σ)) = some r
      cases hp : z_prog (n + 3) with
      | none => rw [hp] at h'; cases h'
      | some m =>
        rw [hp] at h'
        dsimp only at h' ⊢
        cases hb : Nat.ble (z_slots as) m.2.2.2.2 with
        | false => rw [hb] at h'; cases h'
        | true => rw [hb] at h'; exact z_cl_w (z_call_1 d) _ _ _ _ _ h'
theorem z_call_le {d : Nat} (k : Nat) {n : Nat} {as : List ZV} {σ : ZM} {r : ZV × ZM} (h : z_call d n as σ = some r) : z_call (d + k) n as σ = some r := by
  induction k with
  | zero => exact h
  | succ k ih => exact z_call_1 (d + k) n as σ r ih
/-- a pair of calls in the law: at any depth; what is between them -/
theorem z_pr_go {S0 : ZG} {c : Int} {T : ZT} {G : ZG} {a b e1 e2 n m : Nat} {mf mg : ZD} {as bs : List ZV} (h : z_pwr S0 c T G (fun σ => z_call a (n + 3) as σ) (fun σ => z_call b (m + 3) bs σ)) (h0 : 98 ≤ T.2.2.1) (ea : a + e1 = 60) (eb : b + e2 = 60) (hf : z_prog (n + 3) = some mf) (hg : z_prog (m + 3) = some mg) (f2 : mf.2.2.2.1 ≠ 2 ∧ mf.2.2.2.1 ≠ 3) (h1 : z_kt T 1 = T.1 1) (s : ZG × ZG) : ∃ v σ1 T2 G2 s2, z_call 60 (n + 3) as (z_Y T G s) = some (vi v, σ1) ∧ z_call 60 (m + 3) bs σ1 = some (vi v, z_Y T2 G2 s2) ∧ z_I S0 (c + 1) T2 G2 ∧ T2.1 1 = T.1 1 ∧ z_kd σ1 1 = (T.1 1).1 ∧ z_ln σ1 1 = (T.1 1).2 ∧ z_kd σ1 80 = 12 ∧ (((T.1 1).1 = 20) → ∀ k : Nat, z_i σ1 1 k = iI (G 1 k)) := by
  obtain ⟨v, σ1, e1', v', σ2, e2', rfl, T2, G2, s2, rfl, hI, hT⟩ := h s
  have a1 : z_call (a + e1) (n + 3) as (z_Y T G s) = some (v', σ1) := z_call_le e1 e1'
  have a2 : z_call (b + e2) (m + 3) bs σ1 = some (v', z_Y T2 G2 s2) := z_call_le e2 e2'
  rw [ea] at a1
  rw [eb] at a2
  have hs : 2 ≤ z_sz (z_Y T G s) := by show 2 ≤ T.2.2.1; omega
  obtain ⟨x, rfl⟩ := z_call_vi hf f2.1 f2.2 hs a1
  have fr := z_call_fk 60 _ _ _ _ _ hs a1
  have k1 : σ1.1 1 = T.1 1 := (fr.2.1 1 (by show 1 < T.2.2.1; omega)).trans h1
  have k80 : σ1.1 80 = (12, 0) := fr.2.1 80 (by show 80 < T.2.2.1; omega)
  refine ⟨x, σ1, T2, G2, s2, a1, a2, hI, hT, ?_, ?_, ?_, fun q k => ?_⟩
  · show (σ1.1 1).1 = _; rw [k1]
  · show (σ1.1 1).2 = _; rw [k1]
  · show (σ1.1 80).1 = _; rw [k80]
  · have := fr.2.2 (by show (z_kt T 1).1 = 20; rw [h1]; exact q) k
    exact this.trans rfl
/-- a pair of calls in the law: at any depth; what is between them -/
theorem z_pr_gl {S0 : ZG} {c : Int} {T : ZT} {G : ZG} {a b e1 e2 n m : Nat} {mf mg : ZD} {as bs : List ZV} (h : z_pwr S0 c T G (fun σ => z_call a (n + 3) as σ) (fun σ => z_call b (m + 3) bs σ)) (h0 : 98 ≤ T.2.2.1) (ea : a + e1 = 60) (eb : b + e2 = 60) (hf : z_prog (n + 3) = some mf) (hg : z_prog (m + 3) = some mg) (f2 : mf.2.2.2.1 = 2) (h1 : z_kt T 1 = T.1 1) (s : ZG × ZG) : ∃ v σ1 T2 G2 s2, z_call 60 (n + 3) as (z_Y T G s) = some (vl v, σ1) ∧ z_call 60 (m + 3) bs σ1 = some (vl v, z_Y T2 G2 s2) ∧ z_I S0 (c + 1) T2 G2 ∧ T2.1 1 = T.1 1 ∧ z_kd σ1 1 = (T.1 1).1 ∧ z_ln σ1 1 = (T.1 1).2 ∧ z_kd σ1 80 = 12 ∧ (((T.1 1).1 = 20) → ∀ k : Nat, z_i σ1 1 k = iI (G 1 k)) := by
  obtain ⟨v, σ1, e1', v', σ2, e2', rfl, T2, G2, s2, rfl, hI, hT⟩ := h s
  have a1 : z_call (a + e1) (n + 3) as (z_Y T G s) = some (v', σ1) := z_call_le e1 e1'
  have a2 : z_call (b + e2) (m + 3) bs σ1 = some (v', z_Y T2 G2 s2) := z_call_le e2 e2'
  rw [ea] at a1
  rw [eb] at a2
  have hs : 2 ≤ z_sz (z_Y T G s) := by show 2 ≤ T.2.2.1; omega
  obtain ⟨x, rfl⟩ := z_call_vl hf f2 hs a1
  have fr := z_call_fk 60 _ _ _ _ _ hs a1
  have k1 : σ1.1 1 = T.1 1 := (fr.2.1 1 (by show 1 < T.2.2.1; omega)).trans h1
  have k80 : σ1.1 80 = (12, 0) := fr.2.1 80 (by show 80 < T.2.2.1; omega)
  refine ⟨x, σ1, T2, G2, s2, a1, a2, hI, hT, ?_, ?_, ?_, fun q k => ?_⟩
  · show (σ1.1 1).1 = _; rw [k1]
  · show (σ1.1 1).2 = _; rw [k1]
  · show (σ1.1 80).1 = _; rw [k80]
  · have := fr.2.2 (by show (z_kt T 1).1 = 20; rw [h1]; exact q) k
    exact this.trans rfl

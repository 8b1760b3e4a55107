/-! sizes only grow; every call is sound -/
theorem z_mono_inv {cl : Nat → List ZV → ZM → ZR} {mt : Option (Nat × Nat × Nat × Nat)} {nx : Nat} {L : ZL} {S : List ZV} {σ : ZM} {k : ZK} {res : ZV × ZM} (hcl : ∀ mn as σ r τ, cl mn as σ = some (r, τ) → z_sz σ ≤ z_sz τ ∧ z_sw σ ≤ z_sw τ) (hk : ∀ pc L S σ', k pc L S σ' = some res → z_sz σ' ≤ z_sz res.2 ∧ z_sw σ' ≤ z_sw res.2) (h : z_inv cl mt nx L S σ k = some res) : z_sz σ ≤ z_sz res.2 ∧ z_sw σ ≤ z_sw res.2 := by
  cases mt with
  | none => cases h
  | some q =>
    obtain ⟨mn, na, rk, ck⟩ := q
    obtain ⟨as, rest, r, τ, -, -, -, -, h1, h2⟩ := z_inv_some h
    have a := hcl _ _ _ _ _ h1
    have b := hk _ _ _ _ h2
    exact ⟨by omega, by omega⟩
set_option maxHeartbeats 4000000 in
theorem z_mono_step {d : ZD} {cl : Nat → List ZV → ZM → ZR} {i : Instr} {pc nx : Nat} {L : ZL} {S : List ZV} {σ : ZM} {k : ZK} {res : ZV × ZM} (hcl : ∀ mn as σ r τ, cl mn as σ = some (r, τ) → z_sz σ ≤ z_sz τ ∧ z_sw σ ≤ z_sw τ) (hk : ∀ pc L S σ', k pc L S σ' = some res → z_sz σ' ≤ z_sz res.2 ∧ z_sw σ' ≤ z_sw res.2) (h : z_step d cl i pc nx L S σ k = some res) : z_sz σ ≤ z_sz res.2 ∧ z_sw σ ≤ z_sw res.2 := by
  have hal : ∀ pc L S kd n w, k pc L S (z_al σ kd n w) = some res → z_sz σ ≤ z_sz res.2 ∧ z_sw σ ≤ z_sw res.2 := by
    intro pc L S kd n w q
    have g := hk _ _ _ _ q
    rw [z_sz_al, z_sw_al] at g
    exact ⟨by omega, by omega⟩
  unfold z_step at h
  cases i <;> dsimp only at h <;> (repeat' split at h) <;> first
    | (cases h; done)
    | exact z_mono_inv hcl hk h
    | (have g := hk _ _ _ _ h; exact g)
    | exact hal _ _ _ _ _ _ h
    | (obtain ⟨_, h⟩ := z_g_some h; (have g := hk _ _ _ _ h; exact g))
    | (obtain ⟨_, h⟩ := z_g_some h; exact hal _ _ _ _ _ _ h)
    | (obtain ⟨_, h⟩ := z_g_some h; cases h; exact ⟨Nat.le_refl _, Nat.le_refl _⟩)
    | (obtain ⟨_, _, h⟩ := z_jmp_some h; (have g := hk _ _ _ _ h; exact g))
    | (rcases z_sw1_some _ _ h with ⟨_, _, _, _, _, _, h⟩ | ⟨_, _, _, h⟩ <;> (have g := hk _ _ _ _ h; exact g))
    | (obtain ⟨_, h⟩ := z_g_some h; obtain ⟨_, _, h⟩ := z_jmp_some h; have g := hk _ _ _ _ h; exact g)
    | (obtain ⟨_, h⟩ := z_g_some h; split at h <;> (have g := hk _ _ _ _ h; exact g))
theorem z_mono_seg {d : ZD} {cl : Nat → List ZV → ZM → ZR} {back : ZK} {res : ZV × ZM} (hcl : ∀ mn as σ r τ, cl mn as σ = some (r, τ) → z_sz σ ≤ z_sz τ ∧ z_sw σ ≤ z_sw τ) (hb : ∀ pc L S σ', back pc L S σ' = some res → z_sz σ' ≤ z_sz res.2 ∧ z_sw σ' ≤ z_sw res.2) : ∀ (n pc : Nat) (L : ZL) (S : List ZV) (σ : ZM), z_seg d cl back n pc L S σ = some res → z_sz σ ≤ z_sz res.2 ∧ z_sw σ ≤ z_sw res.2
  | 0, _, _, _, _, h => by cases h
  | n + 1, pc, L, S, σ, h => by
    rw [z_seg_s] at h
    cases hi : d.2.1 pc with
    | none => rw [hi] at h; cases h
    | some q =>
      obtain ⟨i, len⟩ := q
      rw [hi] at h
      refine z_mono_step hcl (fun pc' L' S' σ' h' => ?_) h
      unfold z_go at h'
      cases hc : d.2.2.1 pc' with
      | none => rw [hc] at h'; exact z_mono_seg hcl hb n pc' L' S' σ' h'
      | some b => rw [hc] at h'; exact hb _ _ _ _ h'
theorem z_mono_run {d : ZD} {cl : Nat → List ZV → ZM → ZR} {res : ZV × ZM} (hcl : ∀ mn as σ r τ, cl mn as σ = some (r, τ) → z_sz σ ≤ z_sz τ ∧ z_sw σ ≤ z_sw τ) : ∀ (n pc : Nat) (L : ZL) (S : List ZV) (σ : ZM), z_run d cl n pc L S σ = some res → z_sz σ ≤ z_sz res.2 ∧ z_sw σ ≤ z_sw res.2
  | 0, _, _, _, _, h => by cases h
  | n + 1, pc, L, S, σ, h => by
    rw [z_run_s] at h
    exact z_mono_seg hcl (fun pc' L' S' σ' h' => z_mono_run hcl n pc' L' S' σ' h') 3000 pc L S σ h
theorem z_mono_w {d : ZD} {cl : Nat → List ZV → ZM → ZR} {pc : Nat} {L : ZL} {S : List ZV} {σ : ZM} {res : ZV × ZM} (hcl : ∀ mn as σ r τ, cl mn as σ = some (r, τ) → z_sz σ ≤ z_sz τ ∧ z_sw σ ≤ z_sw τ) (h : z_w d cl pc L S σ = some res) : z_sz σ ≤ z_sz res.2 ∧ z_sw σ ≤ z_sw res.2 := by
  obtain ⟨n, h⟩ := z_w_some.mp h
  exact z_mono_run hcl n pc L S σ h
theorem z_call_s (d n : Nat) (as : List ZV) (σ : ZM) : z_call (d + 1) n as σ = match n with
  | 0 => match as with
    | [.inr (.inr q)] => z_g (!(q == 0) && !(q == 9)) (some (vi 0, σ))
    | _ => none
  | 1 => z_copy as σ
  | 2 => z_clone as σ
  | n + 3 => match z_prog (n + 3) with
    | none => none
    | some m => z_g (Nat.ble (z_slots as) m.2.2.2.2) (z_w m (z_call d) 0 (z_ini as m.2.2.2.2) [] σ) := rfl
/-- every call, at every depth -/
theorem z_call_ok {l : Launch} {D : va_G} {cA : Nat → ClassId} {O : ZM} {A : Nat → Value} {base : Nat} (hA : z_Aok O A base) : ∀ dd, z_cm l D cA O A base dd (z_call dd)
  | 0, mn, as, σ, r, τ, h => by cases h
  | dd + 1, mn, as, σ, r, τ, h => by
    have ih := z_call_ok (l := l) (D := D) (cA := cA) hA dd
    rw [z_call_s] at h
    match mn, h with
    | 0, h =>
      dsimp only at h
      split at h
      · rename_i q
        obtain ⟨hb, h⟩ := z_g_some h
        cases h
        simp only [Bool.and_eq_true, Bool.not_eq_true', beq_eq_false_iff_ne] at hb
        exact ⟨Nat.le_refl _, Nat.le_refl _, fun _ => ⟨_, rfl, hb.1, hb.2, rfl⟩, fun h => (by cases h), fun h => (by cases h), fun h => (by omega)⟩
      · cases h
    | 1, h =>
      dsimp only at h
      have h0 := h
      unfold z_copy at h
      split at h
      · obtain ⟨hb, h⟩ := z_g_some h
        cases h
        exact ⟨Nat.le_refl _, Nat.le_refl _, fun h => (by cases h), fun _ => h0, fun h => (by cases h), fun h => (by omega)⟩
      · cases h
    | 2, h =>
      dsimp only at h
      have h0 := h
      unfold z_clone at h
      split at h
      · obtain ⟨hb, h⟩ := z_g_some h
        cases h
        exact ⟨by rw [z_sz_cn]; omega, by rw [z_sw_cn]; omega, fun h => (by cases h), fun h => (by cases h), fun _ => h0, fun h => (by omega)⟩
      · cases h
    | n + 3, h =>
      dsimp only at h
      cases hp : z_prog (n + 3) with
      | none => rw [hp] at h; cases h
      | some m =>
        rw [hp] at h
        obtain ⟨hb, h⟩ := z_g_some h
        have hmono := z_mono_w (fun mn as σ r τ q => ⟨(ih mn as σ r τ q).1, (ih mn as σ r τ q).2.1⟩) h
        exact ⟨hmono.1, hmono.2, fun h => (by omega), fun h => (by omega), fun h => (by omega), fun _ => z_met hA (z_all_good hp) ih (Nat.le_of_ble_eq_true hb) h⟩

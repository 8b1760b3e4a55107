/-! THE PURE PART, 110: what no call changes: kinds, the script -/
def z_nk (c : ZC) : Prop := ∀ n q, c.1 n = some q → q.1 ≠ 20
def z_fr (σ τ : ZM) : Prop := z_sz σ ≤ z_sz τ ∧ (∀ r, r < z_sz σ → τ.1 r = σ.1 r) ∧ (z_kd σ 1 = 20 → ∀ k, τ.2.1 1 k = σ.2.1 1 k)
theorem z_fr_rf (σ : ZM) : z_fr σ σ := ⟨Nat.le_refl _, fun _ _ => rfl, fun _ _ => rfl⟩
theorem z_fr_tr {σ τ ρ : ZM} (h0 : 2 ≤ z_sz σ) (h : z_fr σ τ) (h2 : z_fr τ ρ) : z_fr σ ρ := by
  refine ⟨Nat.le_trans h.1 h2.1, fun r a => ?_, fun a k => ?_⟩
  · rw [h2.2.1 r (Nat.lt_of_lt_of_le a h.1), h.2.1 r a]
  · have e : z_kd τ 1 = z_kd σ 1 := by
      show (τ.1 1).1 = (σ.1 1).1
      rw [h.2.1 1 (by omega)]
    rw [h2.2.2 (by rw [e]; exact a) k, h.2.2 a k]
theorem z_fr_ui {σ : ZM} {a k : Nat} {x : Int32} (h : z_kd σ 1 = 20 → a ≠ 1) : z_fr σ (z_ui σ a k x) := ⟨Nat.le_refl _, fun _ _ => rfl, fun q j => if_neg (fun z => h q z.1.symm)⟩
theorem z_fr_ul {σ : ZM} {a k : Nat} {x : Int64} : z_fr σ (z_ul σ a k x) := ⟨Nat.le_refl _, fun _ _ => rfl, fun _ _ => rfl⟩
theorem z_fr_ur {σ : ZM} {a k x : Nat} : z_fr σ (z_ur σ a k x) := ⟨Nat.le_refl _, fun _ _ => rfl, fun _ _ => rfl⟩
theorem z_fr_al {σ : ZM} {kd len n : Nat} (h0 : 2 ≤ z_sz σ) : z_fr σ (z_al σ kd len n) := ⟨Nat.le_succ _, fun r a => if_neg (by omega), fun _ k => if_neg (by omega)⟩
/-- an answer of a sort -/
def z_vs (so : Nat) (v : ZV) : Prop := (so ≠ 2 → so ≠ 3 → ∃ a, v = vi a) ∧ (so = 2 → ∃ a, v = vl a)
def z_fk (cl : Nat → List ZV → ZM → ZR) : Prop := ∀ n as σ v τ, 2 ≤ z_sz σ → cl n as σ = some (v, τ) → z_fr σ τ
def z_ft (so : Nat) (σ : ZM) (F : ZK → ZR) : Prop := (∃ r, (∀ k, F k = r) ∧ ∀ v τ, r = some (v, τ) → z_fr σ τ ∧ z_vs so v) ∨ ∃ pc L S τ, z_fr σ τ ∧ ∀ k, F k = k pc L S τ
section
variable {so : Nat} {σ : ZM}
theorem z_ft_no : z_ft so σ (fun _ => none) := Or.inl ⟨none, fun _ => rfl, fun v τ h => by cases h⟩
theorem z_ft_k {τ : ZM} (h : z_fr σ τ) (pc : Nat) (L : ZL) (S : List ZV) : z_ft so σ (fun k => k pc L S τ) := Or.inr ⟨pc, L, S, τ, h, fun _ => rfl⟩
theorem z_ft_ks (pc : Nat) (L : ZL) (S : List ZV) : z_ft so σ (fun k => k pc L S σ) := z_ft_k (z_fr_rf σ) pc L S
theorem z_ft_g {b : Bool} {F : ZK → ZR} (h : b = true → z_ft so σ F) : z_ft so σ (fun k => z_g b (F k)) := by
  cases b
  · exact z_ft_no
  · exact h rfl
theorem z_ft_j (pc : Nat) (off : Int) {F : Nat → ZK → ZR} (h : ∀ t, z_ft so σ (F t)) : z_ft so σ (fun k => z_jmp pc off (fun t => F t k)) := by
  unfold z_jmp
  cases (pc : Int) + off with
  | ofNat t => exact h t
  | negSucc _ => exact z_ft_no
theorem z_ft_if (c : Prop) [Decidable c] {F G : ZK → ZR} (h : z_ft so σ F) (h2 : z_ft so σ G) : z_ft so σ (fun k => if c then F k else G k) := by
  by_cases hc : c
  · simp only [hc, if_true]; exact h
  · simp only [hc, if_false]; exact h2
theorem z_ft_sw (x : Int32) (pc : Nat) (dflt : Int) {F : Nat → ZK → ZR} (h : ∀ t, z_ft so σ (F t)) : ∀ (os : List Int) (lo : Int), z_ft so σ (fun k => z_sw1 x pc (fun t => F t k) dflt lo os)
  | [], _ => z_ft_j pc dflt h
  | o :: os, lo => z_ft_if _ (z_ft_j pc o h) (z_ft_sw x pc dflt h os (lo + 1))
theorem z_ft_ret {v : ZV} (h : z_vs so v) : z_ft so σ (fun _ => some (v, σ)) := Or.inl ⟨_, fun _ => rfl, fun v' τ e => by cases e; exact ⟨z_fr_rf σ, h⟩⟩
theorem z_ft_inv {cl : Nat → List ZV → ZM → ZR} (hc : z_fk cl) (h0 : 2 ≤ z_sz σ) (mt : Option (Nat × Nat × Nat × Nat)) (nx : Nat) (L : ZL) (S : List ZV) : z_ft so σ (fun k => z_inv cl mt nx L S σ k) := by
  unfold z_inv
  split
  · exact z_ft_no
  · split
    · exact z_ft_no
    · rename_i mn na rk ck x as rest hx
      refine z_ft_g (fun _ => ?_)
      have key := hc mn as σ
      split
      · unfold z_bL
        split
        · rename_i e; exact z_ft_k (key _ _ h0 e) _ _ _
        · exact z_ft_no
      · unfold z_bR
        split
        · rename_i e; exact z_ft_k (key _ _ h0 e) _ _ _
        · exact z_ft_no
      · unfold z_bV
        split
        · rename_i e; exact z_ft_k (key _ _ h0 e) _ _ _
        · exact z_ft_no
      · unfold z_bI
        split
        · rename_i e; exact z_ft_k (key _ _ h0 e) _ _ _
        · exact z_ft_no
theorem z_ft_ia {b : Bool} {a i : Nat} {x : Int32} (pc : Nat) (L : ZL) (S : List ZV) : z_ft so σ (fun k => z_g (b && Nat.ble 10 a) (k pc L S (z_ui σ a i x))) := z_ft_g (fun h => z_ft_k (z_fr_ui (fun _ e => by
  rw [e, Bool.and_eq_true] at h
  exact absurd h.2 (by decide))) pc L S)
theorem z_ft_pf {b : Bool} {a i kd : Nat} {x : Int32} (hk : kd ≠ 20) (pc : Nat) (L : ZL) (S : List ZV) : z_ft so σ (fun k => z_g (b && (z_kd σ a == kd)) (k pc L S (z_ui σ a i x))) := z_ft_g (fun h => z_ft_k (z_fr_ui (fun q e => by
  rw [Bool.and_eq_true] at h
  have h2 := eq_of_beq h.2
  rw [e, q] at h2
  exact hk h2.symm)) pc L S)
end
set_option maxHeartbeats 4000000 in
theorem z_ft_step {d : ZD} {cl : Nat → List ZV → ZM → ZR} (hd : z_nk d.1) (hc : z_fk cl) (i : Instr) (pc nx : Nat) (L : ZL) (S : List ZV) {σ : ZM} (h0 : 2 ≤ z_sz σ) : z_ft d.2.2.2.1 σ (fun k => z_step d cl i pc nx L S σ k) := by
  have vri : ∀ x : Int32, z_fit d.2.2.2.1 x = true → z_vs d.2.2.2.1 (vi x) := fun x e => ⟨fun _ _ => ⟨x, rfl⟩, fun h => by rw [h] at e; cases e⟩
  have vr2 : ∀ x : Int64, Nat.beq d.2.2.2.1 2 = true → z_vs d.2.2.2.1 (vl x) := fun x e => ⟨fun a => absurd (Nat.eq_of_beq_eq_true e) a, fun _ => ⟨x, rfl⟩⟩
  have vr3 : ∀ v : ZV, Nat.beq d.2.2.2.1 3 = true → z_vs d.2.2.2.1 v := fun v e => ⟨fun _ a => absurd (Nat.eq_of_beq_eq_true e) a, fun h => by rw [h] at e; cases e⟩
  have vr4 : ∀ x : Int32, Nat.beq d.2.2.2.1 4 = true → z_vs d.2.2.2.1 (vi x) := fun x e => ⟨fun _ _ => ⟨x, rfl⟩, fun h => by rw [h] at e; cases e⟩
  unfold z_step
  cases i <;> dsimp only <;> (repeat' split) <;> first
    | exact z_ft_no
    | exact z_ft_ks _ _ _
    | exact z_ft_g (fun _ => z_ft_ks _ _ _)
    | exact z_ft_inv hc h0 _ _ _ _
    | exact z_ft_j _ _ (fun _ => z_ft_ks _ _ _)
    | exact z_ft_sw _ _ _ (fun _ => z_ft_ks _ _ _) _ _
    | exact z_ft_if _ (z_ft_j _ _ (fun _ => z_ft_ks _ _ _)) (z_ft_ks _ _ _)
    | exact z_ft_if _ (z_ft_ks _ _ _) (z_ft_j _ _ (fun _ => z_ft_ks _ _ _))
    | exact z_ft_g (fun _ => z_ft_j _ _ (fun _ => z_ft_ks _ _ _))
    | exact z_ft_ia _ _ _
    | exact z_ft_g (fun _ => z_ft_k z_fr_ul _ _ _)
    | exact z_ft_g (fun _ => z_ft_k z_fr_ur _ _ _)
    | exact z_ft_k (z_fr_al h0) _ _ _
    | exact z_ft_g (fun _ => z_ft_k (z_fr_al h0) _ _ _)
    | exact z_ft_pf (hd _ _ (by assumption)) _ _ _
    | exact z_ft_g (fun e => z_ft_ret (vri _ e))
    | exact z_ft_g (fun e => z_ft_ret (vr2 _ e))
    | exact z_ft_g (fun e => z_ft_ret (vr3 _ e))
    | exact z_ft_g (fun e => z_ft_ret (vr4 _ e))
theorem z_ft_tr {so : Nat} {σ τ : ZM} {F : ZK → ZR} (h0 : 2 ≤ z_sz σ) (h : z_fr σ τ) (h2 : z_ft so τ F) : z_ft so σ F := by
  rcases h2 with ⟨r, a, b⟩ | ⟨pc, L, S, ρ, a, b⟩
  · exact Or.inl ⟨r, a, fun v ρ e => ⟨z_fr_tr h0 h (b v ρ e).1, (b v ρ e).2⟩⟩
  · exact Or.inr ⟨pc, L, S, ρ, z_fr_tr h0 h a, b⟩
theorem z_ft_seg {d : ZD} {cl : Nat → List ZV → ZM → ZR} (hd : z_nk d.1) (hc : z_fk cl) : ∀ (n pc : Nat) (L : ZL) (S : List ZV) (σ : ZM), 2 ≤ z_sz σ → z_ft d.2.2.2.1 σ (fun back => z_seg d cl back n pc L S σ)
  | 0, _, _, _, _, _ => z_ft_no
  | n + 1, pc, L, S, σ, h0 => by
    simp only [z_seg_s]
    cases hq : d.2.1 pc with
    | none => exact z_ft_no
    | some q =>
      obtain ⟨i, len⟩ := q
      dsimp only
      rcases z_ft_step hd hc i pc (pc + len) L S h0 with ⟨r, h, h2⟩ | ⟨pc', L', S', σ', h, h2⟩
      · simp only [h]
        exact Or.inl ⟨r, fun _ => rfl, h2⟩
      · simp only [h2]
        unfold z_go
        cases hb : d.2.2.1 pc' with
        | none => exact z_ft_tr h0 h (z_ft_seg hd hc n pc' L' S' σ' (Nat.le_trans h0 h.1))
        | some b => exact z_ft_k h _ _ _
theorem z_ft_run {d : ZD} {cl : Nat → List ZV → ZM → ZR} (hd : z_nk d.1) (hc : z_fk cl) : ∀ (n pc : Nat) (L : ZL) (S : List ZV) (σ : ZM) (v : ZV) (τ : ZM), 2 ≤ z_sz σ → z_run d cl n pc L S σ = some (v, τ) → z_fr σ τ ∧ z_vs d.2.2.2.1 v
  | 0, _, _, _, _, _, _, _, h => by cases h
  | n + 1, pc, L, S, σ, v, τ, h0, h => by
    rw [z_run_s] at h
    rcases z_ft_seg hd hc 3000 pc L S σ h0 with ⟨r, a, b⟩ | ⟨pc', L', S', σ', a, b⟩
    · dsimp only at a; rw [a] at h; exact b v τ h
    · dsimp only at b; rw [b] at h
      have ih := z_ft_run hd hc n pc' L' S' σ' v τ (Nat.le_trans h0 a.1) h
      exact ⟨z_fr_tr h0 a ih.1, ih.2⟩
theorem z_ft_w {d : ZD} {cl : Nat → List ZV → ZM → ZR} (hd : z_nk d.1) (hc : z_fk cl) {pc : Nat} {L : ZL} {S : List ZV} {σ : ZM} {v : ZV} {τ : ZM} (h0 : 2 ≤ z_sz σ) (h : z_w d cl pc L S σ = some (v, τ)) : z_fr σ τ ∧ z_vs d.2.2.2.1 v := by
  obtain ⟨n, hn⟩ := z_w_some.mp h
  exact z_ft_run hd hc n pc L S σ v τ h0 hn
theorem z_fk_copy {as : List ZV} {σ : ZM} {v : ZV} {τ : ZM} (h : z_copy as σ = some (v, τ)) : z_fr σ τ := by
  unfold z_copy at h
  split at h
  · rename_i a i b j n
    unfold z_g at h
    cases hb : ((z_kd σ a == 20) && (z_kd σ b == 20) && Nat.ble 10 a && Nat.ble 10 b && !(Nat.beq a b) && decide (0 ≤ i) && decide (0 ≤ j) && decide (0 ≤ n) && Nat.ble (i.toNatClampNeg + n.toNatClampNeg) (z_ln σ a) && Nat.ble (j.toNatClampNeg + n.toNatClampNeg) (z_ln σ b)) with
    | false => rw [hb] at h; cases h
    | true =>
      rw [hb] at h
      simp only [Bool.and_eq_true] at hb
      have h10 := Nat.le_of_ble_eq_true hb.1.1.1.1.1.1.2
      cases h
      exact ⟨Nat.le_refl _, fun _ _ => rfl, fun _ k => if_neg (fun z => by omega)⟩
  · cases h
theorem z_fk_clone {as : List ZV} {σ : ZM} {v : ZV} {τ : ZM} (h0 : 2 ≤ z_sz σ) (h : z_clone as σ = some (v, τ)) : z_fr σ τ := by
  unfold z_clone at h
  split at h
  · rename_i a
    unfold z_g at h
    cases hb : ((z_kd σ a == 20) && Nat.ble 10 a) with
    | false => rw [hb] at h; cases h
    | true =>
      rw [hb] at h
      cases h
      exact ⟨Nat.le_succ _, fun r a => if_neg (by omega), fun _ k => if_neg (by omega)⟩
  · cases h
theorem nk_H : z_nk lk_H := by
  have a : ∀ n : Nat, n < 1201 → (lk_H.1 n).all (fun q => !(q.1 == 20)) = true := by decide +kernel
  intro n q h e
  by_cases c : n < 1201
  · have := a n c
    rw [h] at this
    have t : (!(q.1 == 20)) = true := this
    rw [e] at t
    cases t
  · have hb : Nat.ble n 1200 = false := z_ble_hi (by omega)
    unfold lk_H at h
    dsimp only at h
    rw [hb] at h
    cases h
theorem nk_Ar : z_nk lk_Ar := fun n q h => by cases h
theorem nk_Mo : z_nk lk_Mo := by
  have a : ∀ n : Nat, n < 1201 → (lk_Mo.1 n).all (fun q => !(q.1 == 20)) = true := by decide +kernel
  intro n q h e
  by_cases c : n < 1201
  · have := a n c
    rw [h] at this
    have t : (!(q.1 == 20)) = true := this
    rw [e] at t
    cases t
  · have hb : Nat.ble n 1200 = false := z_ble_hi (by omega)
    unfold lk_Mo at h
    dsimp only at h
    rw [hb] at h
    cases h
theorem nk_St : z_nk lk_St := by
  have a : ∀ n : Nat, n < 1201 → (lk_St.1 n).all (fun q => !(q.1 == 20)) = true := by decide +kernel
  intro n q h e
  by_cases c : n < 1201
  · have := a n c
    rw [h] at this
    have t : (!(q.1 == 20)) = true := this
    rw [e] at t
    cases t
  · have hb : Nat.ble n 1200 = false := z_ble_hi (by omega)
    unfold lk_St at h
    dsimp only at h
    rw [hb] at h
    cases h
theorem nk_To : z_nk lk_To := by
  have a : ∀ n : Nat, n < 1201 → (lk_To.1 n).all (fun q => !(q.1 == 20)) = true := by decide +kernel
  intro n q h e
  by_cases c : n < 1201
  · have := a n c
    rw [h] at this
    have t : (!(q.1 == 20)) = true := this
    rw [e] at t
    cases t
  · have hb : Nat.ble n 1200 = false := z_ble_hi (by omega)
    unfold lk_To at h
    dsimp only at h
    rw [hb] at h
    cases h
theorem nk_Re : z_nk lk_Re := by
  have a : ∀ n : Nat, n < 1201 → (lk_Re.1 n).all (fun q => !(q.1 == 20)) = true := by decide +kernel
  intro n q h e
  by_cases c : n < 1201
  · have := a n c
    rw [h] at this
    have t : (!(q.1 == 20)) = true := this
    rw [e] at t
    cases t
  · have hb : Nat.ble n 1200 = false := z_ble_hi (by omega)
    unfold lk_Re at h
    dsimp only at h
    rw [hb] at h
    cases h
theorem nk_Br : z_nk lk_Br := by
  have a : ∀ n : Nat, n < 1201 → (lk_Br.1 n).all (fun q => !(q.1 == 20)) = true := by decide +kernel
  intro n q h e
  by_cases c : n < 1201
  · have := a n c
    rw [h] at this
    have t : (!(q.1 == 20)) = true := this
    rw [e] at t
    cases t
  · have hb : Nat.ble n 1200 = false := z_ble_hi (by omega)
    unfold lk_Br at h
    dsimp only at h
    rw [hb] at h
    cases h
theorem nk_De : z_nk lk_De := by
  have a : ∀ n : Nat, n < 1201 → (lk_De.1 n).all (fun q => !(q.1 == 20)) = true := by decide +kernel
  intro n q h e
  by_cases c : n < 1201
  · have := a n c
    rw [h] at this
    have t : (!(q.1 == 20)) = true := this
    rw [e] at t
    cases t
  · have hb : Nat.ble n 1200 = false := z_ble_hi (by omega)
    unfold lk_De at h
    dsimp only at h
    rw [hb] at h
    cases h
theorem nk_Qu : z_nk lk_Qu := by
  have a : ∀ n : Nat, n < 1201 → (lk_Qu.1 n).all (fun q => !(q.1 == 20)) = true := by decide +kernel
  intro n q h e
  by_cases c : n < 1201
  · have := a n c
    rw [h] at this
    have t : (!(q.1 == 20)) = true := this
    rw [e] at t
    cases t
  · have hb : Nat.ble n 1200 = false := z_ble_hi (by omega)
    unfold lk_Qu at h
    dsimp only at h
    rw [hb] at h
    cases h
theorem nk_Ga : z_nk lk_Ga := by
  have a : ∀ n : Nat, n < 1201 → (lk_Ga.1 n).all (fun q => !(q.1 == 20)) = true := by decide +kernel
  intro n q h e
  by_cases c : n < 1201
  · have := a n c
    rw [h] at this
    have t : (!(q.1 == 20)) = true := this
    rw [e] at t
    cases t
  · have hb : Nat.ble n 1200 = false := z_ble_hi (by omega)
    unfold lk_Ga at h
    dsimp only at h
    rw [hb] at h
    cases h
theorem nk_B : z_nk lk_B := by
  have a : ∀ n : Nat, n < 1201 → (lk_B.1 n).all (fun q => !(q.1 == 20)) = true := by decide +kernel
  intro n q h e
  by_cases c : n < 1201
  · have := a n c
    rw [h] at this
    have t : (!(q.1 == 20)) = true := this
    rw [e] at t
    cases t
  · have hb : Nat.ble n 1200 = false := z_ble_hi (by omega)
    unfold lk_B at h
    dsimp only at h
    rw [hb] at h
    cases h
theorem nk_M : z_nk lk_M := by
  have a : ∀ n : Nat, n < 1201 → (lk_M.1 n).all (fun q => !(q.1 == 20)) = true := by decide +kernel
  intro n q h e
  by_cases c : n < 1201
  · have := a n c
    rw [h] at this
    have t : (!(q.1 == 20)) = true := this
    rw [e] at t
    cases t
  · have hb : Nat.ble n 1200 = false := z_ble_hi (by omega)
    unfold lk_M at h
    dsimp only at h
    rw [hb] at h
    cases h
theorem nk_Ma : z_nk lk_Ma := fun n q h => by cases h
theorem nk_Sg : z_nk lk_Sg := by
  have a : ∀ n : Nat, n < 1201 → (lk_Sg.1 n).all (fun q => !(q.1 == 20)) = true := by decide +kernel
  intro n q h e
  by_cases c : n < 1201
  · have := a n c
    rw [h] at this
    have t : (!(q.1 == 20)) = true := this
    rw [e] at t
    cases t
  · have hb : Nat.ble n 1200 = false := z_ble_hi (by omega)
    unfold lk_Sg at h
    dsimp only at h
    rw [hb] at h
    cases h
theorem nk_Pr : z_nk lk_Pr := fun n q h => by cases h
theorem nk_Sl : z_nk lk_Sl := fun n q h => by cases h
theorem nk_Te : z_nk lk_Te := by
  have a : ∀ n : Nat, n < 1201 → (lk_Te.1 n).all (fun q => !(q.1 == 20)) = true := by decide +kernel
  intro n q h e
  by_cases c : n < 1201
  · have := a n c
    rw [h] at this
    have t : (!(q.1 == 20)) = true := this
    rw [e] at t
    cases t
  · have hb : Nat.ble n 1200 = false := z_ble_hi (by omega)
    unfold lk_Te at h
    dsimp only at h
    rw [hb] at h
    cases h
theorem nk_In : z_nk lk_In := fun n q h => by cases h
theorem nk_L : z_nk lk_L := fun n q h => by cases h
theorem z_cd {b : Bool} {x y : Option ZD} {m : ZD} (h : cond b x y = some m) : x = some m ∨ y = some m := by
  cases b
  · exact Or.inr h
  · exact Or.inl h
theorem z_pk0 {n : Nat} {m : ZD} (h : (cond (Nat.ble n 7) (cond (Nat.ble n 4) (cond (Nat.ble n 3) (cond (Nat.beq n 3) (some d_H_init) none) (cond (Nat.beq n 4) (some d_Ar_fill) none)) (cond (Nat.ble n 5) (cond (Nat.beq n 5) (some d_Mo_init) none) (cond (Nat.ble n 6) (cond (Nat.beq n 6) (some d_St_init) none) (cond (Nat.beq n 7) (some d_To_init) none)))) (cond (Nat.ble n 9) (cond (Nat.ble n 8) (cond (Nat.beq n 8) (some d_Re_init) none) (cond (Nat.beq n 9) (some d_Br_init) none)) (cond (Nat.ble n 10) (cond (Nat.beq n 10) (some d_De_init) none) (cond (Nat.ble n 11) (cond (Nat.beq n 11) (some d_Qu_init) none) (cond (Nat.beq n 12) (some d_Ga_init) none))))) = some m) : z_nk m.1 := ((z_cd h).elim (fun h0 => ((z_cd h0).elim (fun h1 => ((z_cd h1).elim (fun h2 => ((z_cd h2).elim (fun h3 => (Option.some.inj h3 ▸ nk_H)) (fun h3 => (nomatch h3)))) (fun h2 => ((z_cd h2).elim (fun h3 => (Option.some.inj h3 ▸ nk_Ar)) (fun h3 => (nomatch h3)))))) (fun h1 => ((z_cd h1).elim (fun h2 => ((z_cd h2).elim (fun h3 => (Option.some.inj h3 ▸ nk_Mo)) (fun h3 => (nomatch h3)))) (fun h2 => ((z_cd h2).elim (fun h3 => ((z_cd h3).elim (fun h4 => (Option.some.inj h4 ▸ nk_St)) (fun h4 => (nomatch h4)))) (fun h3 => ((z_cd h3).elim (fun h4 => (Option.some.inj h4 ▸ nk_To)) (fun h4 => (nomatch h4)))))))))) (fun h0 => ((z_cd h0).elim (fun h1 => ((z_cd h1).elim (fun h2 => ((z_cd h2).elim (fun h3 => (Option.some.inj h3 ▸ nk_Re)) (fun h3 => (nomatch h3)))) (fun h2 => ((z_cd h2).elim (fun h3 => (Option.some.inj h3 ▸ nk_Br)) (fun h3 => (nomatch h3)))))) (fun h1 => ((z_cd h1).elim (fun h2 => ((z_cd h2).elim (fun h3 => (Option.some.inj h3 ▸ nk_De)) (fun h3 => (nomatch h3)))) (fun h2 => ((z_cd h2).elim (fun h3 => ((z_cd h3).elim (fun h4 => (Option.some.inj h4 ▸ nk_Qu)) (fun h4 => (nomatch h4)))) (fun h3 => ((z_cd h3).elim (fun h4 => (Option.some.inj h4 ▸ nk_Ga)) (fun h4 => (nomatch h4)))))))))))
theorem z_pk1 {n : Nat} {m : ZD} (h : (cond (Nat.ble n 17) (cond (Nat.ble n 14) (cond (Nat.ble n 13) (cond (Nat.beq n 13) (some d_B_init) none) (cond (Nat.beq n 14) (some d_M_copy) none)) (cond (Nat.ble n 15) (cond (Nat.beq n 15) (some d_M_init) none) (cond (Nat.ble n 16) (cond (Nat.beq n 16) (some d_B_within) none) (cond (Nat.beq n 17) (some d_H_addSeat) none)))) (cond (Nat.ble n 19) (cond (Nat.ble n 18) (cond (Nat.beq n 18) (some d_B_seat) none) (cond (Nat.beq n 19) (some d_M_isIn) none)) (cond (Nat.ble n 20) (cond (Nat.beq n 20) (some d_M_seat) none) (cond (Nat.ble n 21) (cond (Nat.beq n 21) (some d_H_addPerson) none) (cond (Nat.beq n 22) (some d_B_person) none))))) = some m) : z_nk m.1 := ((z_cd h).elim (fun h0 => ((z_cd h0).elim (fun h1 => ((z_cd h1).elim (fun h2 => ((z_cd h2).elim (fun h3 => (Option.some.inj h3 ▸ nk_B)) (fun h3 => (nomatch h3)))) (fun h2 => ((z_cd h2).elim (fun h3 => (Option.some.inj h3 ▸ nk_M)) (fun h3 => (nomatch h3)))))) (fun h1 => ((z_cd h1).elim (fun h2 => ((z_cd h2).elim (fun h3 => (Option.some.inj h3 ▸ nk_M)) (fun h3 => (nomatch h3)))) (fun h2 => ((z_cd h2).elim (fun h3 => ((z_cd h3).elim (fun h4 => (Option.some.inj h4 ▸ nk_B)) (fun h4 => (nomatch h4)))) (fun h3 => ((z_cd h3).elim (fun h4 => (Option.some.inj h4 ▸ nk_H)) (fun h4 => (nomatch h4)))))))))) (fun h0 => ((z_cd h0).elim (fun h1 => ((z_cd h1).elim (fun h2 => ((z_cd h2).elim (fun h3 => (Option.some.inj h3 ▸ nk_B)) (fun h3 => (nomatch h3)))) (fun h2 => ((z_cd h2).elim (fun h3 => (Option.some.inj h3 ▸ nk_M)) (fun h3 => (nomatch h3)))))) (fun h1 => ((z_cd h1).elim (fun h2 => ((z_cd h2).elim (fun h3 => (Option.some.inj h3 ▸ nk_M)) (fun h3 => (nomatch h3)))) (fun h2 => ((z_cd h2).elim (fun h3 => ((z_cd h3).elim (fun h4 => (Option.some.inj h4 ▸ nk_H)) (fun h4 => (nomatch h4)))) (fun h3 => ((z_cd h3).elim (fun h4 => (Option.some.inj h4 ▸ nk_B)) (fun h4 => (nomatch h4)))))))))))
theorem z_pk2 {n : Nat} {m : ZD} (h : (cond (Nat.ble n 27) (cond (Nat.ble n 24) (cond (Nat.ble n 23) (cond (Nat.beq n 23) (some d_M_set) none) (cond (Nat.beq n 24) (some d_M_person) none)) (cond (Nat.ble n 25) (cond (Nat.beq n 25) (some d_H_addNote) none) (cond (Nat.ble n 26) (cond (Nat.beq n 26) (some d_B_note) none) (cond (Nat.beq n 27) (some d_M_note) none)))) (cond (Nat.ble n 29) (cond (Nat.ble n 28) (cond (Nat.beq n 28) (some d_B_putBytes) none) (cond (Nat.beq n 29) (some d_B_feed) none)) (cond (Nat.ble n 30) (cond (Nat.beq n 30) (some d_M_four) none) (cond (Nat.ble n 31) (cond (Nat.beq n 31) (some d_M_feed) none) (cond (Nat.beq n 32) (some d_B_end) none))))) = some m) : z_nk m.1 := ((z_cd h).elim (fun h0 => ((z_cd h0).elim (fun h1 => ((z_cd h1).elim (fun h2 => ((z_cd h2).elim (fun h3 => (Option.some.inj h3 ▸ nk_M)) (fun h3 => (nomatch h3)))) (fun h2 => ((z_cd h2).elim (fun h3 => (Option.some.inj h3 ▸ nk_M)) (fun h3 => (nomatch h3)))))) (fun h1 => ((z_cd h1).elim (fun h2 => ((z_cd h2).elim (fun h3 => (Option.some.inj h3 ▸ nk_H)) (fun h3 => (nomatch h3)))) (fun h2 => ((z_cd h2).elim (fun h3 => ((z_cd h3).elim (fun h4 => (Option.some.inj h4 ▸ nk_B)) (fun h4 => (nomatch h4)))) (fun h3 => ((z_cd h3).elim (fun h4 => (Option.some.inj h4 ▸ nk_M)) (fun h4 => (nomatch h4)))))))))) (fun h0 => ((z_cd h0).elim (fun h1 => ((z_cd h1).elim (fun h2 => ((z_cd h2).elim (fun h3 => (Option.some.inj h3 ▸ nk_B)) (fun h3 => (nomatch h3)))) (fun h2 => ((z_cd h2).elim (fun h3 => (Option.some.inj h3 ▸ nk_B)) (fun h3 => (nomatch h3)))))) (fun h1 => ((z_cd h1).elim (fun h2 => ((z_cd h2).elim (fun h3 => (Option.some.inj h3 ▸ nk_M)) (fun h3 => (nomatch h3)))) (fun h2 => ((z_cd h2).elim (fun h3 => ((z_cd h3).elim (fun h4 => (Option.some.inj h4 ▸ nk_M)) (fun h4 => (nomatch h4)))) (fun h3 => ((z_cd h3).elim (fun h4 => (Option.some.inj h4 ▸ nk_B)) (fun h4 => (nomatch h4)))))))))))
theorem z_pk3 {n : Nat} {m : ZD} (h : (cond (Nat.ble n 37) (cond (Nat.ble n 34) (cond (Nat.ble n 33) (cond (Nat.beq n 33) (some d_M_end) none) (cond (Nat.beq n 34) (some d_Ma_min_II) none)) (cond (Nat.ble n 35) (cond (Nat.beq n 35) (some d_Re_isLetter) none) (cond (Nat.ble n 36) (cond (Nat.beq n 36) (some d_Re_isDigit) none) (cond (Nat.beq n 37) (some d_Re_endOfToken) none)))) (cond (Nat.ble n 39) (cond (Nat.ble n 38) (cond (Nat.beq n 38) (some d_Sg_coder) none) (cond (Nat.beq n 39) (some d_Sg_length) none)) (cond (Nat.ble n 40) (cond (Nat.beq n 40) (some d_Sg_isLatin1) none) (cond (Nat.ble n 41) (cond (Nat.beq n 41) (some d_Pr_checkIndex) none) (cond (Nat.beq n 42) (some d_Sg_checkIndex) none))))) = some m) : z_nk m.1 := ((z_cd h).elim (fun h0 => ((z_cd h0).elim (fun h1 => ((z_cd h1).elim (fun h2 => ((z_cd h2).elim (fun h3 => (Option.some.inj h3 ▸ nk_M)) (fun h3 => (nomatch h3)))) (fun h2 => ((z_cd h2).elim (fun h3 => (Option.some.inj h3 ▸ nk_Ma)) (fun h3 => (nomatch h3)))))) (fun h1 => ((z_cd h1).elim (fun h2 => ((z_cd h2).elim (fun h3 => (Option.some.inj h3 ▸ nk_Re)) (fun h3 => (nomatch h3)))) (fun h2 => ((z_cd h2).elim (fun h3 => ((z_cd h3).elim (fun h4 => (Option.some.inj h4 ▸ nk_Re)) (fun h4 => (nomatch h4)))) (fun h3 => ((z_cd h3).elim (fun h4 => (Option.some.inj h4 ▸ nk_Re)) (fun h4 => (nomatch h4)))))))))) (fun h0 => ((z_cd h0).elim (fun h1 => ((z_cd h1).elim (fun h2 => ((z_cd h2).elim (fun h3 => (Option.some.inj h3 ▸ nk_Sg)) (fun h3 => (nomatch h3)))) (fun h2 => ((z_cd h2).elim (fun h3 => (Option.some.inj h3 ▸ nk_Sg)) (fun h3 => (nomatch h3)))))) (fun h1 => ((z_cd h1).elim (fun h2 => ((z_cd h2).elim (fun h3 => (Option.some.inj h3 ▸ nk_Sg)) (fun h3 => (nomatch h3)))) (fun h2 => ((z_cd h2).elim (fun h3 => ((z_cd h3).elim (fun h4 => (Option.some.inj h4 ▸ nk_Pr)) (fun h4 => (nomatch h4)))) (fun h3 => ((z_cd h3).elim (fun h4 => (Option.some.inj h4 ▸ nk_Sg)) (fun h4 => (nomatch h4)))))))))))
theorem z_pk4 {n : Nat} {m : ZD} (h : (cond (Nat.ble n 47) (cond (Nat.ble n 44) (cond (Nat.ble n 43) (cond (Nat.beq n 43) (some d_Sl_charAt) none) (cond (Nat.beq n 44) (some d_Sg_charAt) none)) (cond (Nat.ble n 45) (cond (Nat.beq n 45) (some d_Re_wordOf) none) (cond (Nat.ble n 46) (cond (Nat.beq n 46) (some d_Re_numberOf) none) (cond (Nat.beq n 47) (some d_Sl_canEncode) none)))) (cond (Nat.ble n 49) (cond (Nat.ble n 48) (cond (Nat.beq n 48) (some d_Ma_max_II) none) (cond (Nat.beq n 49) (some d_Sl_indexOfChar) none)) (cond (Nat.ble n 50) (cond (Nat.beq n 50) (some d_Sl_indexOf) none) (cond (Nat.ble n 51) (cond (Nat.beq n 51) (some d_Sg_indexOf_II) none) (cond (Nat.beq n 52) (some d_Sg_indexOf_I) none))))) = some m) : z_nk m.1 := ((z_cd h).elim (fun h0 => ((z_cd h0).elim (fun h1 => ((z_cd h1).elim (fun h2 => ((z_cd h2).elim (fun h3 => (Option.some.inj h3 ▸ nk_Sl)) (fun h3 => (nomatch h3)))) (fun h2 => ((z_cd h2).elim (fun h3 => (Option.some.inj h3 ▸ nk_Sg)) (fun h3 => (nomatch h3)))))) (fun h1 => ((z_cd h1).elim (fun h2 => ((z_cd h2).elim (fun h3 => (Option.some.inj h3 ▸ nk_Re)) (fun h3 => (nomatch h3)))) (fun h2 => ((z_cd h2).elim (fun h3 => ((z_cd h3).elim (fun h4 => (Option.some.inj h4 ▸ nk_Re)) (fun h4 => (nomatch h4)))) (fun h3 => ((z_cd h3).elim (fun h4 => (Option.some.inj h4 ▸ nk_Sl)) (fun h4 => (nomatch h4)))))))))) (fun h0 => ((z_cd h0).elim (fun h1 => ((z_cd h1).elim (fun h2 => ((z_cd h2).elim (fun h3 => (Option.some.inj h3 ▸ nk_Ma)) (fun h3 => (nomatch h3)))) (fun h2 => ((z_cd h2).elim (fun h3 => (Option.some.inj h3 ▸ nk_Sl)) (fun h3 => (nomatch h3)))))) (fun h1 => ((z_cd h1).elim (fun h2 => ((z_cd h2).elim (fun h3 => (Option.some.inj h3 ▸ nk_Sl)) (fun h3 => (nomatch h3)))) (fun h2 => ((z_cd h2).elim (fun h3 => ((z_cd h3).elim (fun h4 => (Option.some.inj h4 ▸ nk_Sg)) (fun h4 => (nomatch h4)))) (fun h3 => ((z_cd h3).elim (fun h4 => (Option.some.inj h4 ▸ nk_Sg)) (fun h4 => (nomatch h4)))))))))))
theorem z_pk5 {n : Nat} {m : ZD} (h : (cond (Nat.ble n 57) (cond (Nat.ble n 54) (cond (Nat.ble n 53) (cond (Nat.beq n 53) (some d_Re_tokenOf) none) (cond (Nat.beq n 54) (some d_Re_scan) none)) (cond (Nat.ble n 55) (cond (Nat.beq n 55) (some d_Re_goTo) none) (cond (Nat.ble n 56) (cond (Nat.beq n 56) (some d_Re_formOf) none) (cond (Nat.beq n 57) (some d_Re_refuse) none)))) (cond (Nat.ble n 59) (cond (Nat.ble n 58) (cond (Nat.beq n 58) (some d_Re_lawOf) none) (cond (Nat.beq n 59) (some d_Re_next) none)) (cond (Nat.ble n 60) (cond (Nat.beq n 60) (some d_Re_expect) none) (cond (Nat.ble n 61) (cond (Nat.beq n 61) (some d_Re_readNumbers) none) (cond (Nat.beq n 62) (some d_Re_emit) none))))) = some m) : z_nk m.1 := ((z_cd h).elim (fun h0 => ((z_cd h0).elim (fun h1 => ((z_cd h1).elim (fun h2 => ((z_cd h2).elim (fun h3 => (Option.some.inj h3 ▸ nk_Re)) (fun h3 => (nomatch h3)))) (fun h2 => ((z_cd h2).elim (fun h3 => (Option.some.inj h3 ▸ nk_Re)) (fun h3 => (nomatch h3)))))) (fun h1 => ((z_cd h1).elim (fun h2 => ((z_cd h2).elim (fun h3 => (Option.some.inj h3 ▸ nk_Re)) (fun h3 => (nomatch h3)))) (fun h2 => ((z_cd h2).elim (fun h3 => ((z_cd h3).elim (fun h4 => (Option.some.inj h4 ▸ nk_Re)) (fun h4 => (nomatch h4)))) (fun h3 => ((z_cd h3).elim (fun h4 => (Option.some.inj h4 ▸ nk_Re)) (fun h4 => (nomatch h4)))))))))) (fun h0 => ((z_cd h0).elim (fun h1 => ((z_cd h1).elim (fun h2 => ((z_cd h2).elim (fun h3 => (Option.some.inj h3 ▸ nk_Re)) (fun h3 => (nomatch h3)))) (fun h2 => ((z_cd h2).elim (fun h3 => (Option.some.inj h3 ▸ nk_Re)) (fun h3 => (nomatch h3)))))) (fun h1 => ((z_cd h1).elim (fun h2 => ((z_cd h2).elim (fun h3 => (Option.some.inj h3 ▸ nk_Re)) (fun h3 => (nomatch h3)))) (fun h2 => ((z_cd h2).elim (fun h3 => ((z_cd h3).elim (fun h4 => (Option.some.inj h4 ▸ nk_Re)) (fun h4 => (nomatch h4)))) (fun h3 => ((z_cd h3).elim (fun h4 => (Option.some.inj h4 ▸ nk_Re)) (fun h4 => (nomatch h4)))))))))))
theorem z_pk6 {n : Nat} {m : ZD} (h : (cond (Nat.ble n 67) (cond (Nat.ble n 64) (cond (Nat.ble n 63) (cond (Nat.beq n 63) (some d_Re_isNameOfLaw) none) (cond (Nat.beq n 64) (some d_Re_readOne) none)) (cond (Nat.ble n 65) (cond (Nat.beq n 65) (some d_Re_readProduct) none) (cond (Nat.ble n 66) (cond (Nat.beq n 66) (some d_Re_readSum) none) (cond (Nat.beq n 67) (some d_Re_readAsk) none)))) (cond (Nat.ble n 69) (cond (Nat.ble n 68) (cond (Nat.beq n 68) (some d_Re_readEither) none) (cond (Nat.beq n 69) (some d_Ar_copyOf) none)) (cond (Nat.ble n 70) (cond (Nat.beq n 70) (some d_Re_keepLaw) none) (cond (Nat.ble n 71) (cond (Nat.beq n 71) (some d_Re_readClause) none) (cond (Nat.beq n 72) (some d_Te_init) none))))) = some m) : z_nk m.1 := ((z_cd h).elim (fun h0 => ((z_cd h0).elim (fun h1 => ((z_cd h1).elim (fun h2 => ((z_cd h2).elim (fun h3 => (Option.some.inj h3 ▸ nk_Re)) (fun h3 => (nomatch h3)))) (fun h2 => ((z_cd h2).elim (fun h3 => (Option.some.inj h3 ▸ nk_Re)) (fun h3 => (nomatch h3)))))) (fun h1 => ((z_cd h1).elim (fun h2 => ((z_cd h2).elim (fun h3 => (Option.some.inj h3 ▸ nk_Re)) (fun h3 => (nomatch h3)))) (fun h2 => ((z_cd h2).elim (fun h3 => ((z_cd h3).elim (fun h4 => (Option.some.inj h4 ▸ nk_Re)) (fun h4 => (nomatch h4)))) (fun h3 => ((z_cd h3).elim (fun h4 => (Option.some.inj h4 ▸ nk_Re)) (fun h4 => (nomatch h4)))))))))) (fun h0 => ((z_cd h0).elim (fun h1 => ((z_cd h1).elim (fun h2 => ((z_cd h2).elim (fun h3 => (Option.some.inj h3 ▸ nk_Re)) (fun h3 => (nomatch h3)))) (fun h2 => ((z_cd h2).elim (fun h3 => (Option.some.inj h3 ▸ nk_Ar)) (fun h3 => (nomatch h3)))))) (fun h1 => ((z_cd h1).elim (fun h2 => ((z_cd h2).elim (fun h3 => (Option.some.inj h3 ▸ nk_Re)) (fun h3 => (nomatch h3)))) (fun h2 => ((z_cd h2).elim (fun h3 => ((z_cd h3).elim (fun h4 => (Option.some.inj h4 ▸ nk_Re)) (fun h4 => (nomatch h4)))) (fun h3 => ((z_cd h3).elim (fun h4 => (Option.some.inj h4 ▸ nk_Te)) (fun h4 => (nomatch h4)))))))))))
theorem z_pk7 {n : Nat} {m : ZD} (h : (cond (Nat.ble n 77) (cond (Nat.ble n 74) (cond (Nat.ble n 73) (cond (Nat.beq n 73) (some d_Re_read) none) (cond (Nat.beq n 74) (some d_H_addText) none)) (cond (Nat.ble n 75) (cond (Nat.beq n 75) (some d_B_text) none) (cond (Nat.ble n 76) (cond (Nat.beq n 76) (some d_M_byteAt) none) (cond (Nat.beq n 77) (some d_M_isFigure) none)))) (cond (Nat.ble n 80) (cond (Nat.ble n 78) (cond (Nat.beq n 78) (some d_M_isLetterByte) none) (cond (Nat.ble n 79) (cond (Nat.beq n 79) (some d_M_isSign) none) (cond (Nat.beq n 80) (some d_M_nextToken) none))) (cond (Nat.ble n 81) (cond (Nat.beq n 81) (some d_M_w2) none) (cond (Nat.ble n 82) (cond (Nat.beq n 82) (some d_M_w3) none) (cond (Nat.beq n 83) (some d_M_w4) none))))) = some m) : z_nk m.1 := ((z_cd h).elim (fun h0 => ((z_cd h0).elim (fun h1 => ((z_cd h1).elim (fun h2 => ((z_cd h2).elim (fun h3 => (Option.some.inj h3 ▸ nk_Re)) (fun h3 => (nomatch h3)))) (fun h2 => ((z_cd h2).elim (fun h3 => (Option.some.inj h3 ▸ nk_H)) (fun h3 => (nomatch h3)))))) (fun h1 => ((z_cd h1).elim (fun h2 => ((z_cd h2).elim (fun h3 => (Option.some.inj h3 ▸ nk_B)) (fun h3 => (nomatch h3)))) (fun h2 => ((z_cd h2).elim (fun h3 => ((z_cd h3).elim (fun h4 => (Option.some.inj h4 ▸ nk_M)) (fun h4 => (nomatch h4)))) (fun h3 => ((z_cd h3).elim (fun h4 => (Option.some.inj h4 ▸ nk_M)) (fun h4 => (nomatch h4)))))))))) (fun h0 => ((z_cd h0).elim (fun h1 => ((z_cd h1).elim (fun h2 => ((z_cd h2).elim (fun h3 => (Option.some.inj h3 ▸ nk_M)) (fun h3 => (nomatch h3)))) (fun h2 => ((z_cd h2).elim (fun h3 => ((z_cd h3).elim (fun h4 => (Option.some.inj h4 ▸ nk_M)) (fun h4 => (nomatch h4)))) (fun h3 => ((z_cd h3).elim (fun h4 => (Option.some.inj h4 ▸ nk_M)) (fun h4 => (nomatch h4)))))))) (fun h1 => ((z_cd h1).elim (fun h2 => ((z_cd h2).elim (fun h3 => (Option.some.inj h3 ▸ nk_M)) (fun h3 => (nomatch h3)))) (fun h2 => ((z_cd h2).elim (fun h3 => ((z_cd h3).elim (fun h4 => (Option.some.inj h4 ▸ nk_M)) (fun h4 => (nomatch h4)))) (fun h3 => ((z_cd h3).elim (fun h4 => (Option.some.inj h4 ▸ nk_M)) (fun h4 => (nomatch h4)))))))))))
theorem z_pk8 {n : Nat} {m : ZD} (h : (cond (Nat.ble n 88) (cond (Nat.ble n 85) (cond (Nat.ble n 84) (cond (Nat.beq n 84) (some d_M_w5) none) (cond (Nat.beq n 85) (some d_M_w6) none)) (cond (Nat.ble n 86) (cond (Nat.beq n 86) (some d_M_isWord) none) (cond (Nat.ble n 87) (cond (Nat.beq n 87) (some d_M_sortOf) none) (cond (Nat.beq n 88) (some d_M_has) none)))) (cond (Nat.ble n 90) (cond (Nat.ble n 89) (cond (Nat.beq n 89) (some d_M_openNow) none) (cond (Nat.beq n 90) (some d_M_isAskHere) none)) (cond (Nat.ble n 91) (cond (Nat.beq n 91) (some d_M_rank) none) (cond (Nat.ble n 92) (cond (Nat.beq n 92) (some d_M_isCompared) none) (cond (Nat.beq n 93) (some d_M_compareOf) none))))) = some m) : z_nk m.1 := ((z_cd h).elim (fun h0 => ((z_cd h0).elim (fun h1 => ((z_cd h1).elim (fun h2 => ((z_cd h2).elim (fun h3 => (Option.some.inj h3 ▸ nk_M)) (fun h3 => (nomatch h3)))) (fun h2 => ((z_cd h2).elim (fun h3 => (Option.some.inj h3 ▸ nk_M)) (fun h3 => (nomatch h3)))))) (fun h1 => ((z_cd h1).elim (fun h2 => ((z_cd h2).elim (fun h3 => (Option.some.inj h3 ▸ nk_M)) (fun h3 => (nomatch h3)))) (fun h2 => ((z_cd h2).elim (fun h3 => ((z_cd h3).elim (fun h4 => (Option.some.inj h4 ▸ nk_M)) (fun h4 => (nomatch h4)))) (fun h3 => ((z_cd h3).elim (fun h4 => (Option.some.inj h4 ▸ nk_M)) (fun h4 => (nomatch h4)))))))))) (fun h0 => ((z_cd h0).elim (fun h1 => ((z_cd h1).elim (fun h2 => ((z_cd h2).elim (fun h3 => (Option.some.inj h3 ▸ nk_M)) (fun h3 => (nomatch h3)))) (fun h2 => ((z_cd h2).elim (fun h3 => (Option.some.inj h3 ▸ nk_M)) (fun h3 => (nomatch h3)))))) (fun h1 => ((z_cd h1).elim (fun h2 => ((z_cd h2).elim (fun h3 => (Option.some.inj h3 ▸ nk_M)) (fun h3 => (nomatch h3)))) (fun h2 => ((z_cd h2).elim (fun h3 => ((z_cd h3).elim (fun h4 => (Option.some.inj h4 ▸ nk_M)) (fun h4 => (nomatch h4)))) (fun h3 => ((z_cd h3).elim (fun h4 => (Option.some.inj h4 ▸ nk_M)) (fun h4 => (nomatch h4)))))))))))
theorem z_pk9 {n : Nat} {m : ZD} (h : (cond (Nat.ble n 98) (cond (Nat.ble n 95) (cond (Nat.ble n 94) (cond (Nat.beq n 94) (some d_M_betweenOf) none) (cond (Nat.beq n 95) (some d_M_emit) none)) (cond (Nat.ble n 96) (cond (Nat.beq n 96) (some d_M_settle) none) (cond (Nat.ble n 97) (cond (Nat.beq n 97) (some d_M_behindOne) none) (cond (Nat.beq n 98) (some d_M_nameOf) none)))) (cond (Nat.ble n 100) (cond (Nat.ble n 99) (cond (Nat.beq n 99) (some d_M_isOf) none) (cond (Nat.beq n 100) (some d_M_opened) none)) (cond (Nat.ble n 101) (cond (Nat.beq n 101) (some d_M_isAskAhead) none) (cond (Nat.ble n 102) (cond (Nat.beq n 102) (some d_M_beginOne) none) (cond (Nat.beq n 103) (some d_M_parsed) none))))) = some m) : z_nk m.1 := ((z_cd h).elim (fun h0 => ((z_cd h0).elim (fun h1 => ((z_cd h1).elim (fun h2 => ((z_cd h2).elim (fun h3 => (Option.some.inj h3 ▸ nk_M)) (fun h3 => (nomatch h3)))) (fun h2 => ((z_cd h2).elim (fun h3 => (Option.some.inj h3 ▸ nk_M)) (fun h3 => (nomatch h3)))))) (fun h1 => ((z_cd h1).elim (fun h2 => ((z_cd h2).elim (fun h3 => (Option.some.inj h3 ▸ nk_M)) (fun h3 => (nomatch h3)))) (fun h2 => ((z_cd h2).elim (fun h3 => ((z_cd h3).elim (fun h4 => (Option.some.inj h4 ▸ nk_M)) (fun h4 => (nomatch h4)))) (fun h3 => ((z_cd h3).elim (fun h4 => (Option.some.inj h4 ▸ nk_M)) (fun h4 => (nomatch h4)))))))))) (fun h0 => ((z_cd h0).elim (fun h1 => ((z_cd h1).elim (fun h2 => ((z_cd h2).elim (fun h3 => (Option.some.inj h3 ▸ nk_M)) (fun h3 => (nomatch h3)))) (fun h2 => ((z_cd h2).elim (fun h3 => (Option.some.inj h3 ▸ nk_M)) (fun h3 => (nomatch h3)))))) (fun h1 => ((z_cd h1).elim (fun h2 => ((z_cd h2).elim (fun h3 => (Option.some.inj h3 ▸ nk_M)) (fun h3 => (nomatch h3)))) (fun h2 => ((z_cd h2).elim (fun h3 => ((z_cd h3).elim (fun h4 => (Option.some.inj h4 ▸ nk_M)) (fun h4 => (nomatch h4)))) (fun h3 => ((z_cd h3).elim (fun h4 => (Option.some.inj h4 ▸ nk_M)) (fun h4 => (nomatch h4)))))))))))
theorem z_pk10 {n : Nat} {m : ZD} (h : (cond (Nat.ble n 108) (cond (Nat.ble n 105) (cond (Nat.ble n 104) (cond (Nat.beq n 104) (some d_M_lawClause) none) (cond (Nat.beq n 105) (some d_M_figure) none)) (cond (Nat.ble n 106) (cond (Nat.beq n 106) (some d_M_worded) none) (cond (Nat.ble n 107) (cond (Nat.beq n 107) (some d_M_pair) none) (cond (Nat.beq n 108) (some d_M_oneClause) none)))) (cond (Nat.ble n 110) (cond (Nat.ble n 109) (cond (Nat.beq n 109) (some d_M_body) none) (cond (Nat.beq n 110) (some d_M_clause) none)) (cond (Nat.ble n 111) (cond (Nat.beq n 111) (some d_M_readText) none) (cond (Nat.ble n 112) (cond (Nat.beq n 112) (some d_M_text) none) (cond (Nat.beq n 113) (some d_B_fault) none))))) = some m) : z_nk m.1 := ((z_cd h).elim (fun h0 => ((z_cd h0).elim (fun h1 => ((z_cd h1).elim (fun h2 => ((z_cd h2).elim (fun h3 => (Option.some.inj h3 ▸ nk_M)) (fun h3 => (nomatch h3)))) (fun h2 => ((z_cd h2).elim (fun h3 => (Option.some.inj h3 ▸ nk_M)) (fun h3 => (nomatch h3)))))) (fun h1 => ((z_cd h1).elim (fun h2 => ((z_cd h2).elim (fun h3 => (Option.some.inj h3 ▸ nk_M)) (fun h3 => (nomatch h3)))) (fun h2 => ((z_cd h2).elim (fun h3 => ((z_cd h3).elim (fun h4 => (Option.some.inj h4 ▸ nk_M)) (fun h4 => (nomatch h4)))) (fun h3 => ((z_cd h3).elim (fun h4 => (Option.some.inj h4 ▸ nk_M)) (fun h4 => (nomatch h4)))))))))) (fun h0 => ((z_cd h0).elim (fun h1 => ((z_cd h1).elim (fun h2 => ((z_cd h2).elim (fun h3 => (Option.some.inj h3 ▸ nk_M)) (fun h3 => (nomatch h3)))) (fun h2 => ((z_cd h2).elim (fun h3 => (Option.some.inj h3 ▸ nk_M)) (fun h3 => (nomatch h3)))))) (fun h1 => ((z_cd h1).elim (fun h2 => ((z_cd h2).elim (fun h3 => (Option.some.inj h3 ▸ nk_M)) (fun h3 => (nomatch h3)))) (fun h2 => ((z_cd h2).elim (fun h3 => ((z_cd h3).elim (fun h4 => (Option.some.inj h4 ▸ nk_M)) (fun h4 => (nomatch h4)))) (fun h3 => ((z_cd h3).elim (fun h4 => (Option.some.inj h4 ▸ nk_B)) (fun h4 => (nomatch h4)))))))))))
theorem z_pk11 {n : Nat} {m : ZD} (h : (cond (Nat.ble n 118) (cond (Nat.ble n 115) (cond (Nat.ble n 114) (cond (Nat.beq n 114) (some d_M_fault) none) (cond (Nat.beq n 115) (some d_H_hasText) none)) (cond (Nat.ble n 116) (cond (Nat.beq n 116) (some d_B_by) none) (cond (Nat.ble n 117) (cond (Nat.beq n 117) (some d_M_by) none) (cond (Nat.beq n 118) (some d_H_hasPerson) none)))) (cond (Nat.ble n 120) (cond (Nat.ble n 119) (cond (Nat.beq n 119) (some d_H_hasSeat) none) (cond (Nat.beq n 120) (some d_Mo_whoSits) none)) (cond (Nat.ble n 121) (cond (Nat.beq n 121) (some d_Mo_writeTo) none) (cond (Nat.ble n 122) (cond (Nat.beq n 122) (some d_St_keep) none) (cond (Nat.beq n 123) (some d_De_sits) none))))) = some m) : z_nk m.1 := ((z_cd h).elim (fun h0 => ((z_cd h0).elim (fun h1 => ((z_cd h1).elim (fun h2 => ((z_cd h2).elim (fun h3 => (Option.some.inj h3 ▸ nk_M)) (fun h3 => (nomatch h3)))) (fun h2 => ((z_cd h2).elim (fun h3 => (Option.some.inj h3 ▸ nk_H)) (fun h3 => (nomatch h3)))))) (fun h1 => ((z_cd h1).elim (fun h2 => ((z_cd h2).elim (fun h3 => (Option.some.inj h3 ▸ nk_B)) (fun h3 => (nomatch h3)))) (fun h2 => ((z_cd h2).elim (fun h3 => ((z_cd h3).elim (fun h4 => (Option.some.inj h4 ▸ nk_M)) (fun h4 => (nomatch h4)))) (fun h3 => ((z_cd h3).elim (fun h4 => (Option.some.inj h4 ▸ nk_H)) (fun h4 => (nomatch h4)))))))))) (fun h0 => ((z_cd h0).elim (fun h1 => ((z_cd h1).elim (fun h2 => ((z_cd h2).elim (fun h3 => (Option.some.inj h3 ▸ nk_H)) (fun h3 => (nomatch h3)))) (fun h2 => ((z_cd h2).elim (fun h3 => (Option.some.inj h3 ▸ nk_Mo)) (fun h3 => (nomatch h3)))))) (fun h1 => ((z_cd h1).elim (fun h2 => ((z_cd h2).elim (fun h3 => (Option.some.inj h3 ▸ nk_Mo)) (fun h3 => (nomatch h3)))) (fun h2 => ((z_cd h2).elim (fun h3 => ((z_cd h3).elim (fun h4 => (Option.some.inj h4 ▸ nk_St)) (fun h4 => (nomatch h4)))) (fun h3 => ((z_cd h3).elim (fun h4 => (Option.some.inj h4 ▸ nk_De)) (fun h4 => (nomatch h4)))))))))))
theorem z_pk12 {n : Nat} {m : ZD} (h : (cond (Nat.ble n 128) (cond (Nat.ble n 125) (cond (Nat.ble n 124) (cond (Nat.beq n 124) (some d_B_sit) none) (cond (Nat.beq n 125) (some d_M_isPerson) none)) (cond (Nat.ble n 126) (cond (Nat.beq n 126) (some d_M_get) none) (cond (Nat.ble n 127) (cond (Nat.beq n 127) (some d_M_isSeat) none) (cond (Nat.beq n 128) (some d_M_sitterOf) none)))) (cond (Nat.ble n 130) (cond (Nat.ble n 129) (cond (Nat.beq n 129) (some d_M_keep) none) (cond (Nat.beq n 130) (some d_M_sit) none)) (cond (Nat.ble n 131) (cond (Nat.beq n 131) (some d_De_swaps) none) (cond (Nat.ble n 132) (cond (Nat.beq n 132) (some d_B_change) none) (cond (Nat.beq n 133) (some d_M_change) none))))) = some m) : z_nk m.1 := ((z_cd h).elim (fun h0 => ((z_cd h0).elim (fun h1 => ((z_cd h1).elim (fun h2 => ((z_cd h2).elim (fun h3 => (Option.some.inj h3 ▸ nk_B)) (fun h3 => (nomatch h3)))) (fun h2 => ((z_cd h2).elim (fun h3 => (Option.some.inj h3 ▸ nk_M)) (fun h3 => (nomatch h3)))))) (fun h1 => ((z_cd h1).elim (fun h2 => ((z_cd h2).elim (fun h3 => (Option.some.inj h3 ▸ nk_M)) (fun h3 => (nomatch h3)))) (fun h2 => ((z_cd h2).elim (fun h3 => ((z_cd h3).elim (fun h4 => (Option.some.inj h4 ▸ nk_M)) (fun h4 => (nomatch h4)))) (fun h3 => ((z_cd h3).elim (fun h4 => (Option.some.inj h4 ▸ nk_M)) (fun h4 => (nomatch h4)))))))))) (fun h0 => ((z_cd h0).elim (fun h1 => ((z_cd h1).elim (fun h2 => ((z_cd h2).elim (fun h3 => (Option.some.inj h3 ▸ nk_M)) (fun h3 => (nomatch h3)))) (fun h2 => ((z_cd h2).elim (fun h3 => (Option.some.inj h3 ▸ nk_M)) (fun h3 => (nomatch h3)))))) (fun h1 => ((z_cd h1).elim (fun h2 => ((z_cd h2).elim (fun h3 => (Option.some.inj h3 ▸ nk_De)) (fun h3 => (nomatch h3)))) (fun h2 => ((z_cd h2).elim (fun h3 => ((z_cd h3).elim (fun h4 => (Option.some.inj h4 ▸ nk_B)) (fun h4 => (nomatch h4)))) (fun h3 => ((z_cd h3).elim (fun h4 => (Option.some.inj h4 ▸ nk_M)) (fun h4 => (nomatch h4)))))))))))
theorem z_pk13 {n : Nat} {m : ZD} (h : (cond (Nat.ble n 138) (cond (Nat.ble n 135) (cond (Nat.ble n 134) (cond (Nat.beq n 134) (some d_De_turns) none) (cond (Nat.beq n 135) (some d_B_be) none)) (cond (Nat.ble n 136) (cond (Nat.beq n 136) (some d_M_be) none) (cond (Nat.ble n 137) (cond (Nat.beq n 137) (some d_B_has) none) (cond (Nat.beq n 138) (some d_De_posts) none)))) (cond (Nat.ble n 140) (cond (Nat.ble n 139) (cond (Nat.beq n 139) (some d_B_usher) none) (cond (Nat.beq n 140) (some d_M_usher) none)) (cond (Nat.ble n 141) (cond (Nat.beq n 141) (some d_Mo_isCoughing) none) (cond (Nat.ble n 142) (cond (Nat.beq n 142) (some d_Mo_keepCough) none) (cond (Nat.beq n 143) (some d_Mo_draw) none))))) = some m) : z_nk m.1 := ((z_cd h).elim (fun h0 => ((z_cd h0).elim (fun h1 => ((z_cd h1).elim (fun h2 => ((z_cd h2).elim (fun h3 => (Option.some.inj h3 ▸ nk_De)) (fun h3 => (nomatch h3)))) (fun h2 => ((z_cd h2).elim (fun h3 => (Option.some.inj h3 ▸ nk_B)) (fun h3 => (nomatch h3)))))) (fun h1 => ((z_cd h1).elim (fun h2 => ((z_cd h2).elim (fun h3 => (Option.some.inj h3 ▸ nk_M)) (fun h3 => (nomatch h3)))) (fun h2 => ((z_cd h2).elim (fun h3 => ((z_cd h3).elim (fun h4 => (Option.some.inj h4 ▸ nk_B)) (fun h4 => (nomatch h4)))) (fun h3 => ((z_cd h3).elim (fun h4 => (Option.some.inj h4 ▸ nk_De)) (fun h4 => (nomatch h4)))))))))) (fun h0 => ((z_cd h0).elim (fun h1 => ((z_cd h1).elim (fun h2 => ((z_cd h2).elim (fun h3 => (Option.some.inj h3 ▸ nk_B)) (fun h3 => (nomatch h3)))) (fun h2 => ((z_cd h2).elim (fun h3 => (Option.some.inj h3 ▸ nk_M)) (fun h3 => (nomatch h3)))))) (fun h1 => ((z_cd h1).elim (fun h2 => ((z_cd h2).elim (fun h3 => (Option.some.inj h3 ▸ nk_Mo)) (fun h3 => (nomatch h3)))) (fun h2 => ((z_cd h2).elim (fun h3 => ((z_cd h3).elim (fun h4 => (Option.some.inj h4 ▸ nk_Mo)) (fun h4 => (nomatch h4)))) (fun h3 => ((z_cd h3).elim (fun h4 => (Option.some.inj h4 ▸ nk_Mo)) (fun h4 => (nomatch h4)))))))))))
theorem z_pk14 {n : Nat} {m : ZD} (h : (cond (Nat.ble n 148) (cond (Nat.ble n 145) (cond (Nat.ble n 144) (cond (Nat.beq n 144) (some d_H_rulingText) none) (cond (Nat.beq n 145) (some d_Br_timeAs) none)) (cond (Nat.ble n 146) (cond (Nat.beq n 146) (some d_Br_namePerson) none) (cond (Nat.ble n 147) (cond (Nat.beq n 147) (some d_Br_joined) none) (cond (Nat.beq n 148) (some d_Ma_min_JJ) none)))) (cond (Nat.ble n 150) (cond (Nat.ble n 149) (cond (Nat.beq n 149) (some d_Ma_max_JJ) none) (cond (Nat.beq n 150) (some d_Br_worth) none)) (cond (Nat.ble n 151) (cond (Nat.beq n 151) (some d_Br_passesOf) none) (cond (Nat.ble n 152) (cond (Nat.beq n 152) (some d_De_spread) none) (cond (Nat.beq n 153) (some d_De_coughsNow) none))))) = some m) : z_nk m.1 := ((z_cd h).elim (fun h0 => ((z_cd h0).elim (fun h1 => ((z_cd h1).elim (fun h2 => ((z_cd h2).elim (fun h3 => (Option.some.inj h3 ▸ nk_H)) (fun h3 => (nomatch h3)))) (fun h2 => ((z_cd h2).elim (fun h3 => (Option.some.inj h3 ▸ nk_Br)) (fun h3 => (nomatch h3)))))) (fun h1 => ((z_cd h1).elim (fun h2 => ((z_cd h2).elim (fun h3 => (Option.some.inj h3 ▸ nk_Br)) (fun h3 => (nomatch h3)))) (fun h2 => ((z_cd h2).elim (fun h3 => ((z_cd h3).elim (fun h4 => (Option.some.inj h4 ▸ nk_Br)) (fun h4 => (nomatch h4)))) (fun h3 => ((z_cd h3).elim (fun h4 => (Option.some.inj h4 ▸ nk_Ma)) (fun h4 => (nomatch h4)))))))))) (fun h0 => ((z_cd h0).elim (fun h1 => ((z_cd h1).elim (fun h2 => ((z_cd h2).elim (fun h3 => (Option.some.inj h3 ▸ nk_Ma)) (fun h3 => (nomatch h3)))) (fun h2 => ((z_cd h2).elim (fun h3 => (Option.some.inj h3 ▸ nk_Br)) (fun h3 => (nomatch h3)))))) (fun h1 => ((z_cd h1).elim (fun h2 => ((z_cd h2).elim (fun h3 => (Option.some.inj h3 ▸ nk_Br)) (fun h3 => (nomatch h3)))) (fun h2 => ((z_cd h2).elim (fun h3 => ((z_cd h3).elim (fun h4 => (Option.some.inj h4 ▸ nk_De)) (fun h4 => (nomatch h4)))) (fun h3 => ((z_cd h3).elim (fun h4 => (Option.some.inj h4 ▸ nk_De)) (fun h4 => (nomatch h4)))))))))))
theorem z_pk15 {n : Nat} {m : ZD} (h : (cond (Nat.ble n 158) (cond (Nat.ble n 155) (cond (Nat.ble n 154) (cond (Nat.beq n 154) (some d_B_cough) none) (cond (Nat.beq n 155) (some d_M_isCoughing) none)) (cond (Nat.ble n 156) (cond (Nat.beq n 156) (some d_M_coughs_I) none) (cond (Nat.ble n 157) (cond (Nat.beq n 157) (some d_M_anew) none) (cond (Nat.beq n 158) (some d_M_drawn) none)))) (cond (Nat.ble n 161) (cond (Nat.ble n 159) (cond (Nat.beq n 159) (some d_M_seatOf) none) (cond (Nat.ble n 160) (cond (Nat.beq n 160) (some d_M_timeOf) none) (cond (Nat.beq n 161) (some d_M_name) none))) (cond (Nat.ble n 162) (cond (Nat.beq n 162) (some d_M_clauseOf) none) (cond (Nat.ble n 163) (cond (Nat.beq n 163) (some d_M_middleOf) none) (cond (Nat.beq n 164) (some d_M_clip) none))))) = some m) : z_nk m.1 := ((z_cd h).elim (fun h0 => ((z_cd h0).elim (fun h1 => ((z_cd h1).elim (fun h2 => ((z_cd h2).elim (fun h3 => (Option.some.inj h3 ▸ nk_B)) (fun h3 => (nomatch h3)))) (fun h2 => ((z_cd h2).elim (fun h3 => (Option.some.inj h3 ▸ nk_M)) (fun h3 => (nomatch h3)))))) (fun h1 => ((z_cd h1).elim (fun h2 => ((z_cd h2).elim (fun h3 => (Option.some.inj h3 ▸ nk_M)) (fun h3 => (nomatch h3)))) (fun h2 => ((z_cd h2).elim (fun h3 => ((z_cd h3).elim (fun h4 => (Option.some.inj h4 ▸ nk_M)) (fun h4 => (nomatch h4)))) (fun h3 => ((z_cd h3).elim (fun h4 => (Option.some.inj h4 ▸ nk_M)) (fun h4 => (nomatch h4)))))))))) (fun h0 => ((z_cd h0).elim (fun h1 => ((z_cd h1).elim (fun h2 => ((z_cd h2).elim (fun h3 => (Option.some.inj h3 ▸ nk_M)) (fun h3 => (nomatch h3)))) (fun h2 => ((z_cd h2).elim (fun h3 => ((z_cd h3).elim (fun h4 => (Option.some.inj h4 ▸ nk_M)) (fun h4 => (nomatch h4)))) (fun h3 => ((z_cd h3).elim (fun h4 => (Option.some.inj h4 ▸ nk_M)) (fun h4 => (nomatch h4)))))))) (fun h1 => ((z_cd h1).elim (fun h2 => ((z_cd h2).elim (fun h3 => (Option.some.inj h3 ▸ nk_M)) (fun h3 => (nomatch h3)))) (fun h2 => ((z_cd h2).elim (fun h3 => ((z_cd h3).elim (fun h4 => (Option.some.inj h4 ▸ nk_M)) (fun h4 => (nomatch h4)))) (fun h3 => ((z_cd h3).elim (fun h4 => (Option.some.inj h4 ▸ nk_M)) (fun h4 => (nomatch h4)))))))))))
theorem z_pk16 {n : Nat} {m : ZD} (h : (cond (Nat.ble n 169) (cond (Nat.ble n 166) (cond (Nat.ble n 165) (cond (Nat.beq n 165) (some d_M_two) none) (cond (Nat.beq n 166) (some d_M_isAsked) none)) (cond (Nat.ble n 167) (cond (Nat.beq n 167) (some d_M_work) none) (cond (Nat.ble n 168) (cond (Nat.beq n 168) (some d_M_says) none) (cond (Nat.beq n 169) (some d_M_passesOf) none)))) (cond (Nat.ble n 171) (cond (Nat.ble n 170) (cond (Nat.beq n 170) (some d_M_coughNow) none) (cond (Nat.beq n 171) (some d_M_cough) none)) (cond (Nat.ble n 172) (cond (Nat.beq n 172) (some d_De_passBeats) none) (cond (Nat.ble n 173) (cond (Nat.beq n 173) (some d_B_beat) none) (cond (Nat.beq n 174) (some d_M_beat) none))))) = some m) : z_nk m.1 := ((z_cd h).elim (fun h0 => ((z_cd h0).elim (fun h1 => ((z_cd h1).elim (fun h2 => ((z_cd h2).elim (fun h3 => (Option.some.inj h3 ▸ nk_M)) (fun h3 => (nomatch h3)))) (fun h2 => ((z_cd h2).elim (fun h3 => (Option.some.inj h3 ▸ nk_M)) (fun h3 => (nomatch h3)))))) (fun h1 => ((z_cd h1).elim (fun h2 => ((z_cd h2).elim (fun h3 => (Option.some.inj h3 ▸ nk_M)) (fun h3 => (nomatch h3)))) (fun h2 => ((z_cd h2).elim (fun h3 => ((z_cd h3).elim (fun h4 => (Option.some.inj h4 ▸ nk_M)) (fun h4 => (nomatch h4)))) (fun h3 => ((z_cd h3).elim (fun h4 => (Option.some.inj h4 ▸ nk_M)) (fun h4 => (nomatch h4)))))))))) (fun h0 => ((z_cd h0).elim (fun h1 => ((z_cd h1).elim (fun h2 => ((z_cd h2).elim (fun h3 => (Option.some.inj h3 ▸ nk_M)) (fun h3 => (nomatch h3)))) (fun h2 => ((z_cd h2).elim (fun h3 => (Option.some.inj h3 ▸ nk_M)) (fun h3 => (nomatch h3)))))) (fun h1 => ((z_cd h1).elim (fun h2 => ((z_cd h2).elim (fun h3 => (Option.some.inj h3 ▸ nk_De)) (fun h3 => (nomatch h3)))) (fun h2 => ((z_cd h2).elim (fun h3 => ((z_cd h3).elim (fun h4 => (Option.some.inj h4 ▸ nk_B)) (fun h4 => (nomatch h4)))) (fun h3 => ((z_cd h3).elim (fun h4 => (Option.some.inj h4 ▸ nk_M)) (fun h4 => (nomatch h4)))))))))))
theorem z_pk17 {n : Nat} {m : ZD} (h : (cond (Nat.ble n 179) (cond (Nat.ble n 176) (cond (Nat.ble n 175) (cond (Nat.beq n 175) (some d_De_doClause) none) (cond (Nat.beq n 176) (some d_B_played) none)) (cond (Nat.ble n 177) (cond (Nat.beq n 177) (some d_M_isPlayed) none) (cond (Nat.ble n 178) (cond (Nat.beq n 178) (some d_M_played) none) (cond (Nat.beq n 179) (some d_De_sitByChance) none)))) (cond (Nat.ble n 181) (cond (Nat.ble n 180) (cond (Nat.beq n 180) (some d_De_happen) none) (cond (Nat.beq n 181) (some d_De_runSeason) none)) (cond (Nat.ble n 182) (cond (Nat.beq n 182) (some d_B_season) none) (cond (Nat.ble n 183) (cond (Nat.beq n 183) (some d_M_happens) none) (cond (Nat.beq n 184) (some d_M_season) none))))) = some m) : z_nk m.1 := ((z_cd h).elim (fun h0 => ((z_cd h0).elim (fun h1 => ((z_cd h1).elim (fun h2 => ((z_cd h2).elim (fun h3 => (Option.some.inj h3 ▸ nk_De)) (fun h3 => (nomatch h3)))) (fun h2 => ((z_cd h2).elim (fun h3 => (Option.some.inj h3 ▸ nk_B)) (fun h3 => (nomatch h3)))))) (fun h1 => ((z_cd h1).elim (fun h2 => ((z_cd h2).elim (fun h3 => (Option.some.inj h3 ▸ nk_M)) (fun h3 => (nomatch h3)))) (fun h2 => ((z_cd h2).elim (fun h3 => ((z_cd h3).elim (fun h4 => (Option.some.inj h4 ▸ nk_M)) (fun h4 => (nomatch h4)))) (fun h3 => ((z_cd h3).elim (fun h4 => (Option.some.inj h4 ▸ nk_De)) (fun h4 => (nomatch h4)))))))))) (fun h0 => ((z_cd h0).elim (fun h1 => ((z_cd h1).elim (fun h2 => ((z_cd h2).elim (fun h3 => (Option.some.inj h3 ▸ nk_De)) (fun h3 => (nomatch h3)))) (fun h2 => ((z_cd h2).elim (fun h3 => (Option.some.inj h3 ▸ nk_De)) (fun h3 => (nomatch h3)))))) (fun h1 => ((z_cd h1).elim (fun h2 => ((z_cd h2).elim (fun h3 => (Option.some.inj h3 ▸ nk_B)) (fun h3 => (nomatch h3)))) (fun h2 => ((z_cd h2).elim (fun h3 => ((z_cd h3).elim (fun h4 => (Option.some.inj h4 ▸ nk_M)) (fun h4 => (nomatch h4)))) (fun h3 => ((z_cd h3).elim (fun h4 => (Option.some.inj h4 ▸ nk_M)) (fun h4 => (nomatch h4)))))))))))
theorem z_pk18 {n : Nat} {m : ZD} (h : (cond (Nat.ble n 189) (cond (Nat.ble n 186) (cond (Nat.ble n 185) (cond (Nat.beq n 185) (some d_Mo_readFrom) none) (cond (Nat.beq n 186) (some d_St_takeBack) none)) (cond (Nat.ble n 187) (cond (Nat.beq n 187) (some d_B_undo) none) (cond (Nat.ble n 188) (cond (Nat.beq n 188) (some d_M_undo) none) (cond (Nat.beq n 189) (some d_Br_timeNow) none)))) (cond (Nat.ble n 191) (cond (Nat.ble n 190) (cond (Nat.beq n 190) (some d_Ma_floorMod) none) (cond (Nat.beq n 191) (some d_Br_breathAs) none)) (cond (Nat.ble n 192) (cond (Nat.beq n 192) (some d_Br_breathNow) none) (cond (Nat.ble n 193) (cond (Nat.beq n 193) (some d_B_of) none) (cond (Nat.beq n 194) (some d_M_mod) none))))) = some m) : z_nk m.1 := ((z_cd h).elim (fun h0 => ((z_cd h0).elim (fun h1 => ((z_cd h1).elim (fun h2 => ((z_cd h2).elim (fun h3 => (Option.some.inj h3 ▸ nk_Mo)) (fun h3 => (nomatch h3)))) (fun h2 => ((z_cd h2).elim (fun h3 => (Option.some.inj h3 ▸ nk_St)) (fun h3 => (nomatch h3)))))) (fun h1 => ((z_cd h1).elim (fun h2 => ((z_cd h2).elim (fun h3 => (Option.some.inj h3 ▸ nk_B)) (fun h3 => (nomatch h3)))) (fun h2 => ((z_cd h2).elim (fun h3 => ((z_cd h3).elim (fun h4 => (Option.some.inj h4 ▸ nk_M)) (fun h4 => (nomatch h4)))) (fun h3 => ((z_cd h3).elim (fun h4 => (Option.some.inj h4 ▸ nk_Br)) (fun h4 => (nomatch h4)))))))))) (fun h0 => ((z_cd h0).elim (fun h1 => ((z_cd h1).elim (fun h2 => ((z_cd h2).elim (fun h3 => (Option.some.inj h3 ▸ nk_Ma)) (fun h3 => (nomatch h3)))) (fun h2 => ((z_cd h2).elim (fun h3 => (Option.some.inj h3 ▸ nk_Br)) (fun h3 => (nomatch h3)))))) (fun h1 => ((z_cd h1).elim (fun h2 => ((z_cd h2).elim (fun h3 => (Option.some.inj h3 ▸ nk_Br)) (fun h3 => (nomatch h3)))) (fun h2 => ((z_cd h2).elim (fun h3 => ((z_cd h3).elim (fun h4 => (Option.some.inj h4 ▸ nk_B)) (fun h4 => (nomatch h4)))) (fun h3 => ((z_cd h3).elim (fun h4 => (Option.some.inj h4 ▸ nk_M)) (fun h4 => (nomatch h4)))))))))))
theorem z_pk19 {n : Nat} {m : ZD} (h : (cond (Nat.ble n 199) (cond (Nat.ble n 196) (cond (Nat.ble n 195) (cond (Nat.beq n 195) (some d_M_breathOf) none) (cond (Nat.beq n 196) (some d_M_of) none)) (cond (Nat.ble n 197) (cond (Nat.beq n 197) (some d_B_ofSeat) none) (cond (Nat.ble n 198) (cond (Nat.beq n 198) (some d_M_ofSeat) none) (cond (Nat.beq n 199) (some d_H_hasNote) none)))) (cond (Nat.ble n 201) (cond (Nat.ble n 200) (cond (Nat.beq n 200) (some d_Br_airAt) none) (cond (Nat.beq n 201) (some d_Br_holdsBy) none)) (cond (Nat.ble n 202) (cond (Nat.beq n 202) (some d_Br_holdsWith) none) (cond (Nat.ble n 203) (cond (Nat.beq n 203) (some d_Br_holdsNow) none) (cond (Nat.beq n 204) (some d_B_ofNote) none))))) = some m) : z_nk m.1 := ((z_cd h).elim (fun h0 => ((z_cd h0).elim (fun h1 => ((z_cd h1).elim (fun h2 => ((z_cd h2).elim (fun h3 => (Option.some.inj h3 ▸ nk_M)) (fun h3 => (nomatch h3)))) (fun h2 => ((z_cd h2).elim (fun h3 => (Option.some.inj h3 ▸ nk_M)) (fun h3 => (nomatch h3)))))) (fun h1 => ((z_cd h1).elim (fun h2 => ((z_cd h2).elim (fun h3 => (Option.some.inj h3 ▸ nk_B)) (fun h3 => (nomatch h3)))) (fun h2 => ((z_cd h2).elim (fun h3 => ((z_cd h3).elim (fun h4 => (Option.some.inj h4 ▸ nk_M)) (fun h4 => (nomatch h4)))) (fun h3 => ((z_cd h3).elim (fun h4 => (Option.some.inj h4 ▸ nk_H)) (fun h4 => (nomatch h4)))))))))) (fun h0 => ((z_cd h0).elim (fun h1 => ((z_cd h1).elim (fun h2 => ((z_cd h2).elim (fun h3 => (Option.some.inj h3 ▸ nk_Br)) (fun h3 => (nomatch h3)))) (fun h2 => ((z_cd h2).elim (fun h3 => (Option.some.inj h3 ▸ nk_Br)) (fun h3 => (nomatch h3)))))) (fun h1 => ((z_cd h1).elim (fun h2 => ((z_cd h2).elim (fun h3 => (Option.some.inj h3 ▸ nk_Br)) (fun h3 => (nomatch h3)))) (fun h2 => ((z_cd h2).elim (fun h3 => ((z_cd h3).elim (fun h4 => (Option.some.inj h4 ▸ nk_Br)) (fun h4 => (nomatch h4)))) (fun h3 => ((z_cd h3).elim (fun h4 => (Option.some.inj h4 ▸ nk_B)) (fun h4 => (nomatch h4)))))))))))
theorem z_pk20 {n : Nat} {m : ZD} (h : (cond (Nat.ble n 209) (cond (Nat.ble n 206) (cond (Nat.ble n 205) (cond (Nat.beq n 205) (some d_M_isNote) none) (cond (Nat.beq n 206) (some d_M_airAt) none)) (cond (Nat.ble n 207) (cond (Nat.beq n 207) (some d_M_holdsBy) none) (cond (Nat.ble n 208) (cond (Nat.beq n 208) (some d_M_isHeld) none) (cond (Nat.beq n 209) (some d_M_ofNote) none)))) (cond (Nat.ble n 211) (cond (Nat.ble n 210) (cond (Nat.beq n 210) (some d_B_air) none) (cond (Nat.beq n 211) (some d_M_air) none)) (cond (Nat.ble n 212) (cond (Nat.beq n 212) (some d_B_coughs) none) (cond (Nat.ble n 213) (cond (Nat.beq n 213) (some d_M_coughs_II) none) (cond (Nat.beq n 214) (some d_Qu_takeAirs) none))))) = some m) : z_nk m.1 := ((z_cd h).elim (fun h0 => ((z_cd h0).elim (fun h1 => ((z_cd h1).elim (fun h2 => ((z_cd h2).elim (fun h3 => (Option.some.inj h3 ▸ nk_M)) (fun h3 => (nomatch h3)))) (fun h2 => ((z_cd h2).elim (fun h3 => (Option.some.inj h3 ▸ nk_M)) (fun h3 => (nomatch h3)))))) (fun h1 => ((z_cd h1).elim (fun h2 => ((z_cd h2).elim (fun h3 => (Option.some.inj h3 ▸ nk_M)) (fun h3 => (nomatch h3)))) (fun h2 => ((z_cd h2).elim (fun h3 => ((z_cd h3).elim (fun h4 => (Option.some.inj h4 ▸ nk_M)) (fun h4 => (nomatch h4)))) (fun h3 => ((z_cd h3).elim (fun h4 => (Option.some.inj h4 ▸ nk_M)) (fun h4 => (nomatch h4)))))))))) (fun h0 => ((z_cd h0).elim (fun h1 => ((z_cd h1).elim (fun h2 => ((z_cd h2).elim (fun h3 => (Option.some.inj h3 ▸ nk_B)) (fun h3 => (nomatch h3)))) (fun h2 => ((z_cd h2).elim (fun h3 => (Option.some.inj h3 ▸ nk_M)) (fun h3 => (nomatch h3)))))) (fun h1 => ((z_cd h1).elim (fun h2 => ((z_cd h2).elim (fun h3 => (Option.some.inj h3 ▸ nk_B)) (fun h3 => (nomatch h3)))) (fun h2 => ((z_cd h2).elim (fun h3 => ((z_cd h3).elim (fun h4 => (Option.some.inj h4 ▸ nk_M)) (fun h4 => (nomatch h4)))) (fun h3 => ((z_cd h3).elim (fun h4 => (Option.some.inj h4 ▸ nk_Qu)) (fun h4 => (nomatch h4)))))))))))
theorem z_pk21 {n : Nat} {m : ZD} (h : (cond (Nat.ble n 219) (cond (Nat.ble n 216) (cond (Nat.ble n 215) (cond (Nat.beq n 215) (some d_Qu_fallenBy) none) (cond (Nat.beq n 216) (some d_Qu_fallen) none)) (cond (Nat.ble n 217) (cond (Nat.beq n 217) (some d_B_fell) none) (cond (Nat.ble n 218) (cond (Nat.beq n 218) (some d_M_falls) none) (cond (Nat.beq n 219) (some d_M_fell) none)))) (cond (Nat.ble n 221) (cond (Nat.ble n 220) (cond (Nat.beq n 220) (some d_H_hasNotes) none) (cond (Nat.beq n 221) (some d_Br_breathOtherwise) none)) (cond (Nat.ble n 222) (cond (Nat.beq n 222) (some d_Qu_isOutBy) none) (cond (Nat.ble n 223) (cond (Nat.beq n 223) (some d_Qu_outBy) none) (cond (Nat.beq n 224) (some d_B_whoIsOut) none))))) = some m) : z_nk m.1 := ((z_cd h).elim (fun h0 => ((z_cd h0).elim (fun h1 => ((z_cd h1).elim (fun h2 => ((z_cd h2).elim (fun h3 => (Option.some.inj h3 ▸ nk_Qu)) (fun h3 => (nomatch h3)))) (fun h2 => ((z_cd h2).elim (fun h3 => (Option.some.inj h3 ▸ nk_Qu)) (fun h3 => (nomatch h3)))))) (fun h1 => ((z_cd h1).elim (fun h2 => ((z_cd h2).elim (fun h3 => (Option.some.inj h3 ▸ nk_B)) (fun h3 => (nomatch h3)))) (fun h2 => ((z_cd h2).elim (fun h3 => ((z_cd h3).elim (fun h4 => (Option.some.inj h4 ▸ nk_M)) (fun h4 => (nomatch h4)))) (fun h3 => ((z_cd h3).elim (fun h4 => (Option.some.inj h4 ▸ nk_M)) (fun h4 => (nomatch h4)))))))))) (fun h0 => ((z_cd h0).elim (fun h1 => ((z_cd h1).elim (fun h2 => ((z_cd h2).elim (fun h3 => (Option.some.inj h3 ▸ nk_H)) (fun h3 => (nomatch h3)))) (fun h2 => ((z_cd h2).elim (fun h3 => (Option.some.inj h3 ▸ nk_Br)) (fun h3 => (nomatch h3)))))) (fun h1 => ((z_cd h1).elim (fun h2 => ((z_cd h2).elim (fun h3 => (Option.some.inj h3 ▸ nk_Qu)) (fun h3 => (nomatch h3)))) (fun h2 => ((z_cd h2).elim (fun h3 => ((z_cd h3).elim (fun h4 => (Option.some.inj h4 ▸ nk_Qu)) (fun h4 => (nomatch h4)))) (fun h3 => ((z_cd h3).elim (fun h4 => (Option.some.inj h4 ▸ nk_B)) (fun h4 => (nomatch h4)))))))))))
theorem z_pk22 {n : Nat} {m : ZD} (h : (cond (Nat.ble n 229) (cond (Nat.ble n 226) (cond (Nat.ble n 225) (cond (Nat.beq n 225) (some d_M_areNotes) none) (cond (Nat.beq n 226) (some d_M_turned) none)) (cond (Nat.ble n 227) (cond (Nat.beq n 227) (some d_M_whoIsOut) none) (cond (Nat.ble n 228) (cond (Nat.beq n 228) (some d_Qu_isHiccup) none) (cond (Nat.beq n 229) (some d_Qu_hiccups) none)))) (cond (Nat.ble n 231) (cond (Nat.ble n 230) (cond (Nat.beq n 230) (some d_B_hiccupped) none) (cond (Nat.beq n 231) (some d_M_fallsWith) none)) (cond (Nat.ble n 232) (cond (Nat.beq n 232) (some d_M_hiccupped) none) (cond (Nat.ble n 233) (cond (Nat.beq n 233) (some d_In_bitCount) none) (cond (Nat.beq n 234) (some d_H_isSmallSet) none))))) = some m) : z_nk m.1 := ((z_cd h).elim (fun h0 => ((z_cd h0).elim (fun h1 => ((z_cd h1).elim (fun h2 => ((z_cd h2).elim (fun h3 => (Option.some.inj h3 ▸ nk_M)) (fun h3 => (nomatch h3)))) (fun h2 => ((z_cd h2).elim (fun h3 => (Option.some.inj h3 ▸ nk_M)) (fun h3 => (nomatch h3)))))) (fun h1 => ((z_cd h1).elim (fun h2 => ((z_cd h2).elim (fun h3 => (Option.some.inj h3 ▸ nk_M)) (fun h3 => (nomatch h3)))) (fun h2 => ((z_cd h2).elim (fun h3 => ((z_cd h3).elim (fun h4 => (Option.some.inj h4 ▸ nk_Qu)) (fun h4 => (nomatch h4)))) (fun h3 => ((z_cd h3).elim (fun h4 => (Option.some.inj h4 ▸ nk_Qu)) (fun h4 => (nomatch h4)))))))))) (fun h0 => ((z_cd h0).elim (fun h1 => ((z_cd h1).elim (fun h2 => ((z_cd h2).elim (fun h3 => (Option.some.inj h3 ▸ nk_B)) (fun h3 => (nomatch h3)))) (fun h2 => ((z_cd h2).elim (fun h3 => (Option.some.inj h3 ▸ nk_M)) (fun h3 => (nomatch h3)))))) (fun h1 => ((z_cd h1).elim (fun h2 => ((z_cd h2).elim (fun h3 => (Option.some.inj h3 ▸ nk_M)) (fun h3 => (nomatch h3)))) (fun h2 => ((z_cd h2).elim (fun h3 => ((z_cd h3).elim (fun h4 => (Option.some.inj h4 ▸ nk_In)) (fun h4 => (nomatch h4)))) (fun h3 => ((z_cd h3).elim (fun h4 => (Option.some.inj h4 ▸ nk_H)) (fun h4 => (nomatch h4)))))))))))
theorem z_pk23 {n : Nat} {m : ZD} (h : (cond (Nat.ble n 239) (cond (Nat.ble n 236) (cond (Nat.ble n 235) (cond (Nat.beq n 235) (some d_Ga_listMembers) none) (cond (Nat.beq n 236) (some d_Ga_indexIn) none)) (cond (Nat.ble n 237) (cond (Nat.beq n 237) (some d_Ga_airOfOthers) none) (cond (Nat.ble n 238) (cond (Nat.beq n 238) (some d_Br_askOf) none) (cond (Nat.beq n 239) (some d_Ga_firstOrder) none)))) (cond (Nat.ble n 242) (cond (Nat.ble n 240) (cond (Nat.beq n 240) (some d_Br_wouldHold) none) (cond (Nat.ble n 241) (cond (Nat.beq n 241) (some d_Ga_swapOrder) none) (cond (Nat.beq n 242) (some d_Ga_nextOrder) none))) (cond (Nat.ble n 243) (cond (Nat.beq n 243) (some d_Ga_countHeld) none) (cond (Nat.ble n 244) (cond (Nat.beq n 244) (some d_Ga_orderAt) none) (cond (Nat.beq n 245) (some d_Ga_bestSeats) none))))) = some m) : z_nk m.1 := ((z_cd h).elim (fun h0 => ((z_cd h0).elim (fun h1 => ((z_cd h1).elim (fun h2 => ((z_cd h2).elim (fun h3 => (Option.some.inj h3 ▸ nk_Ga)) (fun h3 => (nomatch h3)))) (fun h2 => ((z_cd h2).elim (fun h3 => (Option.some.inj h3 ▸ nk_Ga)) (fun h3 => (nomatch h3)))))) (fun h1 => ((z_cd h1).elim (fun h2 => ((z_cd h2).elim (fun h3 => (Option.some.inj h3 ▸ nk_Ga)) (fun h3 => (nomatch h3)))) (fun h2 => ((z_cd h2).elim (fun h3 => ((z_cd h3).elim (fun h4 => (Option.some.inj h4 ▸ nk_Br)) (fun h4 => (nomatch h4)))) (fun h3 => ((z_cd h3).elim (fun h4 => (Option.some.inj h4 ▸ nk_Ga)) (fun h4 => (nomatch h4)))))))))) (fun h0 => ((z_cd h0).elim (fun h1 => ((z_cd h1).elim (fun h2 => ((z_cd h2).elim (fun h3 => (Option.some.inj h3 ▸ nk_Br)) (fun h3 => (nomatch h3)))) (fun h2 => ((z_cd h2).elim (fun h3 => ((z_cd h3).elim (fun h4 => (Option.some.inj h4 ▸ nk_Ga)) (fun h4 => (nomatch h4)))) (fun h3 => ((z_cd h3).elim (fun h4 => (Option.some.inj h4 ▸ nk_Ga)) (fun h4 => (nomatch h4)))))))) (fun h1 => ((z_cd h1).elim (fun h2 => ((z_cd h2).elim (fun h3 => (Option.some.inj h3 ▸ nk_Ga)) (fun h3 => (nomatch h3)))) (fun h2 => ((z_cd h2).elim (fun h3 => ((z_cd h3).elim (fun h4 => (Option.some.inj h4 ▸ nk_Ga)) (fun h4 => (nomatch h4)))) (fun h3 => ((z_cd h3).elim (fun h4 => (Option.some.inj h4 ▸ nk_Ga)) (fun h4 => (nomatch h4)))))))))))
theorem z_pk24 {n : Nat} {m : ZD} (h : (cond (Nat.ble n 250) (cond (Nat.ble n 247) (cond (Nat.ble n 246) (cond (Nat.beq n 246) (some d_B_seated) none) (cond (Nat.beq n 247) (some d_M_bits) none)) (cond (Nat.ble n 248) (cond (Nat.beq n 248) (some d_M_isSome) none) (cond (Nat.ble n 249) (cond (Nat.beq n 249) (some d_M_layOut) none) (cond (Nat.beq n 250) (some d_M_manyHold) none)))) (cond (Nat.ble n 252) (cond (Nat.ble n 251) (cond (Nat.beq n 251) (some d_M_nextOrder) none) (cond (Nat.beq n 252) (some d_M_bestSeats) none)) (cond (Nat.ble n 253) (cond (Nat.beq n 253) (some d_M_seated) none) (cond (Nat.ble n 254) (cond (Nat.beq n 254) (some d_Qu_takeBlockAir) none) (cond (Nat.beq n 255) (some d_Qu_airBy) none))))) = some m) : z_nk m.1 := ((z_cd h).elim (fun h0 => ((z_cd h0).elim (fun h1 => ((z_cd h1).elim (fun h2 => ((z_cd h2).elim (fun h3 => (Option.some.inj h3 ▸ nk_B)) (fun h3 => (nomatch h3)))) (fun h2 => ((z_cd h2).elim (fun h3 => (Option.some.inj h3 ▸ nk_M)) (fun h3 => (nomatch h3)))))) (fun h1 => ((z_cd h1).elim (fun h2 => ((z_cd h2).elim (fun h3 => (Option.some.inj h3 ▸ nk_M)) (fun h3 => (nomatch h3)))) (fun h2 => ((z_cd h2).elim (fun h3 => ((z_cd h3).elim (fun h4 => (Option.some.inj h4 ▸ nk_M)) (fun h4 => (nomatch h4)))) (fun h3 => ((z_cd h3).elim (fun h4 => (Option.some.inj h4 ▸ nk_M)) (fun h4 => (nomatch h4)))))))))) (fun h0 => ((z_cd h0).elim (fun h1 => ((z_cd h1).elim (fun h2 => ((z_cd h2).elim (fun h3 => (Option.some.inj h3 ▸ nk_M)) (fun h3 => (nomatch h3)))) (fun h2 => ((z_cd h2).elim (fun h3 => (Option.some.inj h3 ▸ nk_M)) (fun h3 => (nomatch h3)))))) (fun h1 => ((z_cd h1).elim (fun h2 => ((z_cd h2).elim (fun h3 => (Option.some.inj h3 ▸ nk_M)) (fun h3 => (nomatch h3)))) (fun h2 => ((z_cd h2).elim (fun h3 => ((z_cd h3).elim (fun h4 => (Option.some.inj h4 ▸ nk_Qu)) (fun h4 => (nomatch h4)))) (fun h3 => ((z_cd h3).elim (fun h4 => (Option.some.inj h4 ▸ nk_Qu)) (fun h4 => (nomatch h4)))))))))))
theorem z_pk25 {n : Nat} {m : ZD} (h : (cond (Nat.ble n 260) (cond (Nat.ble n 257) (cond (Nat.ble n 256) (cond (Nat.beq n 256) (some d_Qu_setsThatHold) none) (cond (Nat.beq n 257) (some d_Qu_fewestUshers) none)) (cond (Nat.ble n 258) (cond (Nat.beq n 258) (some d_B_ushers) none) (cond (Nat.ble n 259) (cond (Nat.beq n 259) (some d_M_ushers) none) (cond (Nat.beq n 260) (some d_Qu_takeChanges) none)))) (cond (Nat.ble n 262) (cond (Nat.ble n 261) (cond (Nat.beq n 261) (some d_Qu_canBeHad) none) (cond (Nat.beq n 262) (some d_Qu_outOfReach) none)) (cond (Nat.ble n 263) (cond (Nat.beq n 263) (some d_B_cannot) none) (cond (Nat.ble n 264) (cond (Nat.beq n 264) (some d_M_cannot) none) (cond (Nat.beq n 265) (some d_Qu_heldLater) none))))) = some m) : z_nk m.1 := ((z_cd h).elim (fun h0 => ((z_cd h0).elim (fun h1 => ((z_cd h1).elim (fun h2 => ((z_cd h2).elim (fun h3 => (Option.some.inj h3 ▸ nk_Qu)) (fun h3 => (nomatch h3)))) (fun h2 => ((z_cd h2).elim (fun h3 => (Option.some.inj h3 ▸ nk_Qu)) (fun h3 => (nomatch h3)))))) (fun h1 => ((z_cd h1).elim (fun h2 => ((z_cd h2).elim (fun h3 => (Option.some.inj h3 ▸ nk_B)) (fun h3 => (nomatch h3)))) (fun h2 => ((z_cd h2).elim (fun h3 => ((z_cd h3).elim (fun h4 => (Option.some.inj h4 ▸ nk_M)) (fun h4 => (nomatch h4)))) (fun h3 => ((z_cd h3).elim (fun h4 => (Option.some.inj h4 ▸ nk_Qu)) (fun h4 => (nomatch h4)))))))))) (fun h0 => ((z_cd h0).elim (fun h1 => ((z_cd h1).elim (fun h2 => ((z_cd h2).elim (fun h3 => (Option.some.inj h3 ▸ nk_Qu)) (fun h3 => (nomatch h3)))) (fun h2 => ((z_cd h2).elim (fun h3 => (Option.some.inj h3 ▸ nk_Qu)) (fun h3 => (nomatch h3)))))) (fun h1 => ((z_cd h1).elim (fun h2 => ((z_cd h2).elim (fun h3 => (Option.some.inj h3 ▸ nk_B)) (fun h3 => (nomatch h3)))) (fun h2 => ((z_cd h2).elim (fun h3 => ((z_cd h3).elim (fun h4 => (Option.some.inj h4 ▸ nk_M)) (fun h4 => (nomatch h4)))) (fun h3 => ((z_cd h3).elim (fun h4 => (Option.some.inj h4 ▸ nk_Qu)) (fun h4 => (nomatch h4)))))))))))
theorem z_pk26 {n : Nat} {m : ZD} (h : (cond (Nat.ble n 270) (cond (Nat.ble n 267) (cond (Nat.ble n 266) (cond (Nat.beq n 266) (some d_Qu_bestShift) none) (cond (Nat.beq n 267) (some d_B_shift) none)) (cond (Nat.ble n 268) (cond (Nat.beq n 268) (some d_M_shift) none) (cond (Nat.ble n 269) (cond (Nat.beq n 269) (some d_Qu_phaseOf) none) (cond (Nat.beq n 270) (some d_Qu_togetherWith) none)))) (cond (Nat.ble n 272) (cond (Nat.ble n 271) (cond (Nat.beq n 271) (some d_B_inTime) none) (cond (Nat.beq n 272) (some d_M_inTimeWith) none)) (cond (Nat.ble n 273) (cond (Nat.beq n 273) (some d_M_inTime) none) (cond (Nat.ble n 274) (cond (Nat.beq n 274) (some d_Qu_greatestChoir) none) (cond (Nat.beq n 275) (some d_B_choir) none))))) = some m) : z_nk m.1 := ((z_cd h).elim (fun h0 => ((z_cd h0).elim (fun h1 => ((z_cd h1).elim (fun h2 => ((z_cd h2).elim (fun h3 => (Option.some.inj h3 ▸ nk_Qu)) (fun h3 => (nomatch h3)))) (fun h2 => ((z_cd h2).elim (fun h3 => (Option.some.inj h3 ▸ nk_B)) (fun h3 => (nomatch h3)))))) (fun h1 => ((z_cd h1).elim (fun h2 => ((z_cd h2).elim (fun h3 => (Option.some.inj h3 ▸ nk_M)) (fun h3 => (nomatch h3)))) (fun h2 => ((z_cd h2).elim (fun h3 => ((z_cd h3).elim (fun h4 => (Option.some.inj h4 ▸ nk_Qu)) (fun h4 => (nomatch h4)))) (fun h3 => ((z_cd h3).elim (fun h4 => (Option.some.inj h4 ▸ nk_Qu)) (fun h4 => (nomatch h4)))))))))) (fun h0 => ((z_cd h0).elim (fun h1 => ((z_cd h1).elim (fun h2 => ((z_cd h2).elim (fun h3 => (Option.some.inj h3 ▸ nk_B)) (fun h3 => (nomatch h3)))) (fun h2 => ((z_cd h2).elim (fun h3 => (Option.some.inj h3 ▸ nk_M)) (fun h3 => (nomatch h3)))))) (fun h1 => ((z_cd h1).elim (fun h2 => ((z_cd h2).elim (fun h3 => (Option.some.inj h3 ▸ nk_M)) (fun h3 => (nomatch h3)))) (fun h2 => ((z_cd h2).elim (fun h3 => ((z_cd h3).elim (fun h4 => (Option.some.inj h4 ▸ nk_Qu)) (fun h4 => (nomatch h4)))) (fun h3 => ((z_cd h3).elim (fun h4 => (Option.some.inj h4 ▸ nk_B)) (fun h4 => (nomatch h4)))))))))))
theorem z_pk27 {n : Nat} {m : ZD} (h : (cond (Nat.ble n 280) (cond (Nat.ble n 277) (cond (Nat.ble n 276) (cond (Nat.beq n 276) (some d_M_choir) none) (cond (Nat.beq n 277) (some d_Ma_abs) none)) (cond (Nat.ble n 278) (cond (Nat.beq n 278) (some d_Qu_greatestDivisor) none) (cond (Nat.ble n 279) (cond (Nat.beq n 279) (some d_Qu_odds) none) (cond (Nat.beq n 280) (some d_B_comes) none)))) (cond (Nat.ble n 282) (cond (Nat.ble n 281) (cond (Nat.beq n 281) (some d_M_common) none) (cond (Nat.beq n 282) (some d_M_comes) none)) (cond (Nat.ble n 283) (cond (Nat.beq n 283) (some d_Qu_airNeeded) none) (cond (Nat.ble n 284) (cond (Nat.beq n 284) (some d_B_needed) none) (cond (Nat.beq n 285) (some d_M_needed) none))))) = some m) : z_nk m.1 := ((z_cd h).elim (fun h0 => ((z_cd h0).elim (fun h1 => ((z_cd h1).elim (fun h2 => ((z_cd h2).elim (fun h3 => (Option.some.inj h3 ▸ nk_M)) (fun h3 => (nomatch h3)))) (fun h2 => ((z_cd h2).elim (fun h3 => (Option.some.inj h3 ▸ nk_Ma)) (fun h3 => (nomatch h3)))))) (fun h1 => ((z_cd h1).elim (fun h2 => ((z_cd h2).elim (fun h3 => (Option.some.inj h3 ▸ nk_Qu)) (fun h3 => (nomatch h3)))) (fun h2 => ((z_cd h2).elim (fun h3 => ((z_cd h3).elim (fun h4 => (Option.some.inj h4 ▸ nk_Qu)) (fun h4 => (nomatch h4)))) (fun h3 => ((z_cd h3).elim (fun h4 => (Option.some.inj h4 ▸ nk_B)) (fun h4 => (nomatch h4)))))))))) (fun h0 => ((z_cd h0).elim (fun h1 => ((z_cd h1).elim (fun h2 => ((z_cd h2).elim (fun h3 => (Option.some.inj h3 ▸ nk_M)) (fun h3 => (nomatch h3)))) (fun h2 => ((z_cd h2).elim (fun h3 => (Option.some.inj h3 ▸ nk_M)) (fun h3 => (nomatch h3)))))) (fun h1 => ((z_cd h1).elim (fun h2 => ((z_cd h2).elim (fun h3 => (Option.some.inj h3 ▸ nk_Qu)) (fun h3 => (nomatch h3)))) (fun h2 => ((z_cd h2).elim (fun h3 => ((z_cd h3).elim (fun h4 => (Option.some.inj h4 ▸ nk_B)) (fun h4 => (nomatch h4)))) (fun h3 => ((z_cd h3).elim (fun h4 => (Option.some.inj h4 ▸ nk_M)) (fun h4 => (nomatch h4)))))))))))
theorem z_pk28 {n : Nat} {m : ZD} (h : (cond (Nat.ble n 290) (cond (Nat.ble n 287) (cond (Nat.ble n 286) (cond (Nat.beq n 286) (some d_Ga_takeSide) none) (cond (Nat.beq n 287) (some d_Ga_firstMove) none)) (cond (Nat.ble n 288) (cond (Nat.beq n 288) (some d_Ga_secondWins) none) (cond (Nat.ble n 289) (cond (Nat.beq n 289) (some d_Ga_fight) none) (cond (Nat.beq n 290) (some d_B_duel) none)))) (cond (Nat.ble n 292) (cond (Nat.ble n 291) (cond (Nat.beq n 291) (some d_M_laySides) none) (cond (Nat.beq n 292) (some d_M_findFalls) none)) (cond (Nat.ble n 293) (cond (Nat.beq n 293) (some d_M_isGood) none) (cond (Nat.ble n 294) (cond (Nat.beq n 294) (some d_M_duel) none) (cond (Nat.beq n 295) (some d_To_addBeside) none))))) = some m) : z_nk m.1 := ((z_cd h).elim (fun h0 => ((z_cd h0).elim (fun h1 => ((z_cd h1).elim (fun h2 => ((z_cd h2).elim (fun h3 => (Option.some.inj h3 ▸ nk_Ga)) (fun h3 => (nomatch h3)))) (fun h2 => ((z_cd h2).elim (fun h3 => (Option.some.inj h3 ▸ nk_Ga)) (fun h3 => (nomatch h3)))))) (fun h1 => ((z_cd h1).elim (fun h2 => ((z_cd h2).elim (fun h3 => (Option.some.inj h3 ▸ nk_Ga)) (fun h3 => (nomatch h3)))) (fun h2 => ((z_cd h2).elim (fun h3 => ((z_cd h3).elim (fun h4 => (Option.some.inj h4 ▸ nk_Ga)) (fun h4 => (nomatch h4)))) (fun h3 => ((z_cd h3).elim (fun h4 => (Option.some.inj h4 ▸ nk_B)) (fun h4 => (nomatch h4)))))))))) (fun h0 => ((z_cd h0).elim (fun h1 => ((z_cd h1).elim (fun h2 => ((z_cd h2).elim (fun h3 => (Option.some.inj h3 ▸ nk_M)) (fun h3 => (nomatch h3)))) (fun h2 => ((z_cd h2).elim (fun h3 => (Option.some.inj h3 ▸ nk_M)) (fun h3 => (nomatch h3)))))) (fun h1 => ((z_cd h1).elim (fun h2 => ((z_cd h2).elim (fun h3 => (Option.some.inj h3 ▸ nk_M)) (fun h3 => (nomatch h3)))) (fun h2 => ((z_cd h2).elim (fun h3 => ((z_cd h3).elim (fun h4 => (Option.some.inj h4 ▸ nk_M)) (fun h4 => (nomatch h4)))) (fun h3 => ((z_cd h3).elim (fun h4 => (Option.some.inj h4 ▸ nk_To)) (fun h4 => (nomatch h4)))))))))))
theorem z_pk29 {n : Nat} {m : ZD} (h : (cond (Nat.ble n 300) (cond (Nat.ble n 297) (cond (Nat.ble n 296) (cond (Nat.beq n 296) (some d_B_beside) none) (cond (Nat.beq n 297) (some d_M_beside) none)) (cond (Nat.ble n 298) (cond (Nat.beq n 298) (some d_Ga_isAsTold) none) (cond (Nat.ble n 299) (cond (Nat.beq n 299) (some d_Ga_seatings) none) (cond (Nat.beq n 300) (some d_B_chairs) none)))) (cond (Nat.ble n 302) (cond (Nat.ble n 301) (cond (Nat.beq n 301) (some d_M_nthOf) none) (cond (Nat.beq n 302) (some d_M_isAsTold) none)) (cond (Nat.ble n 303) (cond (Nat.beq n 303) (some d_M_chairs) none) (cond (Nat.ble n 304) (cond (Nat.beq n 304) (some d_Qu_lawsBy) none) (cond (Nat.beq n 305) (some d_B_whoseLaw) none))))) = some m) : z_nk m.1 := ((z_cd h).elim (fun h0 => ((z_cd h0).elim (fun h1 => ((z_cd h1).elim (fun h2 => ((z_cd h2).elim (fun h3 => (Option.some.inj h3 ▸ nk_B)) (fun h3 => (nomatch h3)))) (fun h2 => ((z_cd h2).elim (fun h3 => (Option.some.inj h3 ▸ nk_M)) (fun h3 => (nomatch h3)))))) (fun h1 => ((z_cd h1).elim (fun h2 => ((z_cd h2).elim (fun h3 => (Option.some.inj h3 ▸ nk_Ga)) (fun h3 => (nomatch h3)))) (fun h2 => ((z_cd h2).elim (fun h3 => ((z_cd h3).elim (fun h4 => (Option.some.inj h4 ▸ nk_Ga)) (fun h4 => (nomatch h4)))) (fun h3 => ((z_cd h3).elim (fun h4 => (Option.some.inj h4 ▸ nk_B)) (fun h4 => (nomatch h4)))))))))) (fun h0 => ((z_cd h0).elim (fun h1 => ((z_cd h1).elim (fun h2 => ((z_cd h2).elim (fun h3 => (Option.some.inj h3 ▸ nk_M)) (fun h3 => (nomatch h3)))) (fun h2 => ((z_cd h2).elim (fun h3 => (Option.some.inj h3 ▸ nk_M)) (fun h3 => (nomatch h3)))))) (fun h1 => ((z_cd h1).elim (fun h2 => ((z_cd h2).elim (fun h3 => (Option.some.inj h3 ▸ nk_M)) (fun h3 => (nomatch h3)))) (fun h2 => ((z_cd h2).elim (fun h3 => ((z_cd h3).elim (fun h4 => (Option.some.inj h4 ▸ nk_Qu)) (fun h4 => (nomatch h4)))) (fun h3 => ((z_cd h3).elim (fun h4 => (Option.some.inj h4 ▸ nk_B)) (fun h4 => (nomatch h4)))))))))))
theorem z_pk30 {n : Nat} {m : ZD} (h : (cond (Nat.ble n 310) (cond (Nat.ble n 307) (cond (Nat.ble n 306) (cond (Nat.beq n 306) (some d_M_whoseLaw) none) (cond (Nat.beq n 307) (some d_To_addSeen) none)) (cond (Nat.ble n 308) (cond (Nat.beq n 308) (some d_B_seen) none) (cond (Nat.ble n 309) (cond (Nat.beq n 309) (some d_M_seen) none) (cond (Nat.beq n 310) (some d_In_signum) none)))) (cond (Nat.ble n 312) (cond (Nat.ble n 311) (cond (Nat.beq n 311) (some d_Qu_isSeenBy) none) (cond (Nat.beq n 312) (some d_Qu_startsOf) none)) (cond (Nat.ble n 313) (cond (Nat.beq n 313) (some d_B_starts) none) (cond (Nat.ble n 314) (cond (Nat.beq n 314) (some d_M_isAsSeen) none) (cond (Nat.beq n 315) (some d_M_starts) none))))) = some m) : z_nk m.1 := ((z_cd h).elim (fun h0 => ((z_cd h0).elim (fun h1 => ((z_cd h1).elim (fun h2 => ((z_cd h2).elim (fun h3 => (Option.some.inj h3 ▸ nk_M)) (fun h3 => (nomatch h3)))) (fun h2 => ((z_cd h2).elim (fun h3 => (Option.some.inj h3 ▸ nk_To)) (fun h3 => (nomatch h3)))))) (fun h1 => ((z_cd h1).elim (fun h2 => ((z_cd h2).elim (fun h3 => (Option.some.inj h3 ▸ nk_B)) (fun h3 => (nomatch h3)))) (fun h2 => ((z_cd h2).elim (fun h3 => ((z_cd h3).elim (fun h4 => (Option.some.inj h4 ▸ nk_M)) (fun h4 => (nomatch h4)))) (fun h3 => ((z_cd h3).elim (fun h4 => (Option.some.inj h4 ▸ nk_In)) (fun h4 => (nomatch h4)))))))))) (fun h0 => ((z_cd h0).elim (fun h1 => ((z_cd h1).elim (fun h2 => ((z_cd h2).elim (fun h3 => (Option.some.inj h3 ▸ nk_Qu)) (fun h3 => (nomatch h3)))) (fun h2 => ((z_cd h2).elim (fun h3 => (Option.some.inj h3 ▸ nk_Qu)) (fun h3 => (nomatch h3)))))) (fun h1 => ((z_cd h1).elim (fun h2 => ((z_cd h2).elim (fun h3 => (Option.some.inj h3 ▸ nk_B)) (fun h3 => (nomatch h3)))) (fun h2 => ((z_cd h2).elim (fun h3 => ((z_cd h3).elim (fun h4 => (Option.some.inj h4 ▸ nk_M)) (fun h4 => (nomatch h4)))) (fun h3 => ((z_cd h3).elim (fun h4 => (Option.some.inj h4 ▸ nk_M)) (fun h4 => (nomatch h4)))))))))))
theorem z_pk31 {n : Nat} {m : ZD} (h : (cond (Nat.ble n 320) (cond (Nat.ble n 317) (cond (Nat.ble n 316) (cond (Nat.beq n 316) (some d_H_copyFrom) none) (cond (Nat.beq n 317) (some d_Mo_copyFrom) none)) (cond (Nat.ble n 318) (cond (Nat.beq n 318) (some d_St_copyFrom) none) (cond (Nat.ble n 319) (cond (Nat.beq n 319) (some d_To_copyFrom) none) (cond (Nat.beq n 320) (some d_B_image) none)))) (cond (Nat.ble n 323) (cond (Nat.ble n 321) (cond (Nat.beq n 321) (some d_M_image) none) (cond (Nat.ble n 322) (cond (Nat.beq n 322) (some d_B_back) none) (cond (Nat.beq n 323) (some d_M_back) none))) (cond (Nat.ble n 324) (cond (Nat.beq n 324) (some d_B_about) none) (cond (Nat.ble n 325) (cond (Nat.beq n 325) (some d_M_about) none) (cond (Nat.beq n 327) (some d_H_textOf) none))))) = some m) : z_nk m.1 := ((z_cd h).elim (fun h0 => ((z_cd h0).elim (fun h1 => ((z_cd h1).elim (fun h2 => ((z_cd h2).elim (fun h3 => (Option.some.inj h3 ▸ nk_H)) (fun h3 => (nomatch h3)))) (fun h2 => ((z_cd h2).elim (fun h3 => (Option.some.inj h3 ▸ nk_Mo)) (fun h3 => (nomatch h3)))))) (fun h1 => ((z_cd h1).elim (fun h2 => ((z_cd h2).elim (fun h3 => (Option.some.inj h3 ▸ nk_St)) (fun h3 => (nomatch h3)))) (fun h2 => ((z_cd h2).elim (fun h3 => ((z_cd h3).elim (fun h4 => (Option.some.inj h4 ▸ nk_To)) (fun h4 => (nomatch h4)))) (fun h3 => ((z_cd h3).elim (fun h4 => (Option.some.inj h4 ▸ nk_B)) (fun h4 => (nomatch h4)))))))))) (fun h0 => ((z_cd h0).elim (fun h1 => ((z_cd h1).elim (fun h2 => ((z_cd h2).elim (fun h3 => (Option.some.inj h3 ▸ nk_M)) (fun h3 => (nomatch h3)))) (fun h2 => ((z_cd h2).elim (fun h3 => ((z_cd h3).elim (fun h4 => (Option.some.inj h4 ▸ nk_B)) (fun h4 => (nomatch h4)))) (fun h3 => ((z_cd h3).elim (fun h4 => (Option.some.inj h4 ▸ nk_M)) (fun h4 => (nomatch h4)))))))) (fun h1 => ((z_cd h1).elim (fun h2 => ((z_cd h2).elim (fun h3 => (Option.some.inj h3 ▸ nk_B)) (fun h3 => (nomatch h3)))) (fun h2 => ((z_cd h2).elim (fun h3 => ((z_cd h3).elim (fun h4 => (Option.some.inj h4 ▸ nk_M)) (fun h4 => (nomatch h4)))) (fun h3 => ((z_cd h3).elim (fun h4 => (Option.some.inj h4 ▸ nk_H)) (fun h4 => (nomatch h4)))))))))))
theorem z_prog_nk {n : Nat} {m : ZD} (h : z_prog n = some m) : z_nk m.1 := ((z_cd h).elim (fun h0 => ((z_cd h0).elim (fun h1 => ((z_cd h1).elim (fun h2 => ((z_cd h2).elim (fun h3 => ((z_cd h3).elim (fun h4 => (z_pk0 h4)) (fun h4 => (z_pk1 h4)))) (fun h3 => ((z_cd h3).elim (fun h4 => (z_pk2 h4)) (fun h4 => (z_pk3 h4)))))) (fun h2 => ((z_cd h2).elim (fun h3 => ((z_cd h3).elim (fun h4 => (z_pk4 h4)) (fun h4 => (z_pk5 h4)))) (fun h3 => ((z_cd h3).elim (fun h4 => (z_pk6 h4)) (fun h4 => (z_pk7 h4)))))))) (fun h1 => ((z_cd h1).elim (fun h2 => ((z_cd h2).elim (fun h3 => ((z_cd h3).elim (fun h4 => (z_pk8 h4)) (fun h4 => (z_pk9 h4)))) (fun h3 => ((z_cd h3).elim (fun h4 => (z_pk10 h4)) (fun h4 => (z_pk11 h4)))))) (fun h2 => ((z_cd h2).elim (fun h3 => ((z_cd h3).elim (fun h4 => (z_pk12 h4)) (fun h4 => (z_pk13 h4)))) (fun h3 => ((z_cd h3).elim (fun h4 => (z_pk14 h4)) (fun h4 => (z_pk15 h4)))))))))) (fun h0 => ((z_cd h0).elim (fun h1 => ((z_cd h1).elim (fun h2 => ((z_cd h2).elim (fun h3 => ((z_cd h3).elim (fun h4 => (z_pk16 h4)) (fun h4 => (z_pk17 h4)))) (fun h3 => ((z_cd h3).elim (fun h4 => (z_pk18 h4)) (fun h4 => (z_pk19 h4)))))) (fun h2 => ((z_cd h2).elim (fun h3 => ((z_cd h3).elim (fun h4 => (z_pk20 h4)) (fun h4 => (z_pk21 h4)))) (fun h3 => ((z_cd h3).elim (fun h4 => (z_pk22 h4)) (fun h4 => (z_pk23 h4)))))))) (fun h1 => ((z_cd h1).elim (fun h2 => ((z_cd h2).elim (fun h3 => ((z_cd h3).elim (fun h4 => (z_pk24 h4)) (fun h4 => (z_pk25 h4)))) (fun h3 => ((z_cd h3).elim (fun h4 => (z_pk26 h4)) (fun h4 => (z_pk27 h4)))))) (fun h2 => ((z_cd h2).elim (fun h3 => ((z_cd h3).elim (fun h4 => (z_pk28 h4)) (fun h4 => (z_pk29 h4)))) (fun h3 => ((z_cd h3).elim (fun h4 => (z_pk30 h4)) (fun h4 => (z_pk31 h4)))))))))))
theorem z_call_fk : ∀ d : Nat, z_fk (z_call d)
  | 0, _, _, _, _, _, _, h => by cases h
  | d + 1, n, as, σ, v, τ, h0, h => by
    match n, h with
    | 0, h =>
      match as, h with
      | [.inr (.inr q)], h =>
        have h' : z_g (!(q == 0) && !(q == 9)) (some (vi 0, σ)) = some (v, τ) := h
        cases hb : (!(q == 0) && !(q == 9)) with
        | false => rw [hb] at h'; cases h'
        | true => rw [hb] at h'; cases h'; exact z_fr_rf σ
      | [], h => cases h
      | .inl _ :: _, h => cases h
      | .inr (.inl _) :: _, h => cases h
      | .inr (.inr _) :: _ :: _, h => cases h
    | 1, h => exact z_fk_copy h
    | 2, h => exact z_fk_clone h0 h
    | n + 3, h =>
      have h' : (match z_prog (n + 3) with | none => none | some m => z_g (Nat.ble (z_slots as) m.2.2.2.2) (z_w m (z_call d) 0 (z_ini as m.2.2.2.2) [] σ)) = some (v, τ) := h
      cases hp : z_prog (n + 3) with
      | none => rw [hp] at h'; cases h'
      | some m =>
        rw [hp] at h'
        dsimp only at h'
        cases hb : Nat.ble (z_slots as) m.2.2.2.2 with
        | false => rw [hb] at h'; cases h'
        | true => rw [hb] at h'; exact (z_ft_w (z_prog_nk hp) (z_call_fk d) h0 h').1
theorem z_call_vi {d n : Nat} {as : List ZV} {σ : ZM} {v : ZV} {τ : ZM} {m : ZD} (hp : z_prog (n + 3) = some m) (h2 : m.2.2.2.1 ≠ 2) (h3 : m.2.2.2.1 ≠ 3) (h0 : 2 ≤ z_sz σ) (h : z_call (d + 1) (n + 3) as σ = some (v, τ)) : ∃ a, v = vi a := by
  have h' : (match z_prog (n + 3) with | none => none | some m => z_g (Nat.ble (z_slots as) m.2.2.2.2) (z_w m (z_call d) 0 (z_ini as m.2.2.2.2) [] σ)) = some (v, τ) := h
  rw [hp] at h'
  dsimp only at h'
  cases hb : Nat.ble (z_slots as) m.2.2.2.2 with
  | false => rw [hb] at h'; cases h'
  | true => rw [hb] at h'; exact (z_ft_w (z_prog_nk hp) (z_call_fk d) h0 h').2.1 h2 h3
theorem z_call_vl {d n : Nat} {as : List ZV} {σ : ZM} {v : ZV} {τ : ZM} {m : ZD} (hp : z_prog (n + 3) = some m) (h2 : m.2.2.2.1 = 2) (h0 : 2 ≤ z_sz σ) (h : z_call (d + 1) (n + 3) as σ = some (v, τ)) : ∃ a, v = vl a := by
  have h' : (match z_prog (n + 3) with | none => none | some m => z_g (Nat.ble (z_slots as) m.2.2.2.2) (z_w m (z_call d) 0 (z_ini as m.2.2.2.2) [] σ)) = some (v, τ) := h
  rw [hp] at h'
  dsimp only at h'
  cases hb : Nat.ble (z_slots as) m.2.2.2.2 with
  | false => rw [hb] at h'; cases h'
  | true => rw [hb] at h'; exact (z_ft_w (z_prog_nk hp) (z_call_fk d) h0 h').2.2 h2

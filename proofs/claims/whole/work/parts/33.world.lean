/-! THE PURE PART, 13: the whole world between two calls; what keeps it -/
def t_lt (T : ZT) (r : Nat) : Prop := r < T.2.2.1 ∧ z_rt T r 0 < T.2.2.1 ∧ z_rt T r 1 < T.2.2.1 ∧ z_rt T r 2 < T.2.2.1 ∧ z_rt T r 3 < T.2.2.1
/-- verdicts are of this asking or of an older one -/
def z_ask (G : ZG) (c : Int) : Prop := 0 ≤ G 61 5 ∧ G 61 5 ≤ 12 * c ∧ ∀ i, 0 ≤ i → i < 181 → 0 ≤ G 64 i ∧ G 64 i ≤ 2 * G 61 5 + 1
def z_tape (G : ZG) : Prop := (0 ≤ G 80 4 ∧ G 80 4 ≤ 300) ∧ G 10 9 = G 80 4 ∧ ∀ k, 0 ≤ k → k < G 80 4 → (0 ≤ G 84 k ∧ G 84 k ≤ 255) ∧ G 55 k = if G 84 k < 128 then G 84 k else G 84 k - 256
def z_flt (G : ZG) : Prop := (G 56 13 = 0 ∧ G 80 5 = -1 ∧ G 80 6 = -1) ∨ (G 56 13 = 1 ∧ G 56 14 = G 80 5 ∧ G 56 15 = G 80 6 ∧ (0 ≤ G 80 5 ∧ G 80 5 ≤ 6) ∧ -1 ≤ G 80 6 ∧ G 80 6 ≤ 300)
/-- slots of texts that are not told yet are empty -/
def z_ts (T : ZT) (G : ZG) : Prop := (∀ k : Nat, k < 4 → G 81 5 ≤ k → z_rt T 19 k = 0) ∧ (∀ k : Nat, k < 4 → G 82 5 ≤ k → z_rt T 41 k = 0)
/-- all but the present: what was there before (S0), the image, texts, hiccup, tape, fault, verdicts, sizes (after c calls) -/
def z_fx (S0 : ZG) (c : Int) (T : ZT) (G : ZG) : Prop :=
  (∀ r, r < 10 → G r = S0 r) ∧ c_img G ∧ t_ok T G ∧ (∀ t, 0 ≤ t → t < G 81 5 → t_lt T (z_rt T 19 t.toNat)) ∧ (∀ t, 0 ≤ t → t < G 82 5 → t_lt T (z_rt T 41 t.toNat)) ∧ (G 80 24 = -1 ∧ i_in (G 80 25)) ∧ z_tape G ∧ z_flt G ∧ z_ask G c ∧ (98 ≤ T.2.2.1 ∧ (T.2.2.1 : Int) ≤ 98 + 5 * c) ∧ ((T.2.2.2 : Int) ≤ 20000 + 1000 * c) ∧ (0 ≤ c ∧ c ≤ 600) ∧ z_ts T G
def z_I (S0 : ZG) (c : Int) (T : ZT) (G : ZG) : Prop := c_now G ∧ z_fx S0 c T G
/-- a pair of calls: the same answer, and the world stands behind them -/
def z_pwr (S0 : ZG) (c : Int) (T : ZT) (G : ZG) (f g : ZM → ZR) : Prop := ∀ s, z_ok (f (z_Y T G s)) (fun v τ => z_ok (g τ) (fun v' τ' => v' = v ∧ ∃ T2 G2 s2, τ' = z_Y T2 G2 s2 ∧ z_I S0 (c + 1) T2 G2 ∧ T2.1 1 = T.1 1))
theorem c_sd_eq {h h' : ZG} {A : Int → Int} (e : ∀ r, r ≤ 21 → h' r = h r) (hc : c_sd h A) : c_sd h' A := by
  unfold c_sd c_hs c_mo c_to c_sp at *
  rw [e 0 (by omega), e 1 (by omega), e 2 (by omega), e 3 (by omega), e 4 (by omega), e 5 (by omega), e 6 (by omega), e 7 (by omega), e 9 (by omega), e 10 (by omega), e 11 (by omega), e 12 (by omega), e 13 (by omega), e 14 (by omega), e 15 (by omega), e 16 (by omega), e 17 (by omega), e 18 (by omega), e 19 (by omega), e 20 (by omega), e 21 (by omega)]
  exact hc
theorem c_now_eq {G G' : ZG} (e : ∀ r, 11 ≤ r → r ≤ 32 → G' r = G r) (e2 : G' 81 = G 81) (hc : c_now G) : c_now G' := by
  unfold c_now at *
  rw [e2]
  exact c_sd_eq (fun r h => e _ (by omega) (by omega)) hc
theorem c_img_eq {G G' : ZG} (e : ∀ r, 33 ≤ r → r ≤ 54 → G' r = G r) (e2 : G' 82 = G 82) (hc : c_img G) : c_img G' := by
  unfold c_img at *
  rw [e2]
  exact c_sd_eq (fun r h => e _ (by omega) (by omega)) hc
theorem t_law_eq {T : ZT} {G G' : ZG} {t q : Int} {r : Nat} (e : ∀ r, 98 ≤ r → G' r = G r) (e2 : G' 83 = G 83) (h : t_law T G t q r) : t_law T G' t q r := by
  unfold t_law at *
  rw [e2]
  rcases h with h | ⟨h1, h2, h3, h4⟩
  · exact Or.inl h
  · exact Or.inr ⟨h1, h2, h3, by rw [e r h1]; exact h4⟩
theorem t_txt_eq {T : ZT} {G G' : ZG} {t : Int} {r : Nat} (e : ∀ r, 98 ≤ r → G' r = G r) (e2 : G' 83 = G 83) (h : t_txt T G t r) : t_txt T G' t r := by
  obtain ⟨h1, h2, h3, h4, h5, h6, h7, h8, h9⟩ := h
  unfold t_txt
  rw [e r h1, e _ h7, e2]
  exact ⟨h1, h2, t_law_eq e e2 h3, t_law_eq e e2 h4, t_law_eq e e2 h5, h6, h7, h8, h9⟩
theorem t_ok_eq {T : ZT} {G G' : ZG} (e : ∀ r, 98 ≤ r → G' r = G r) (e2 : G' 83 = G 83) (e5 : G' 81 5 = G 81 5) (e6 : G' 82 5 = G 82 5) (h : t_ok T G) : t_ok T G' := by
  obtain ⟨h1, h2, h3, h4⟩ := h
  unfold t_ok
  rw [e2, e5, e6]
  exact ⟨h1, fun t a b => t_txt_eq e e2 (h2 t a b), h3, fun t a b => t_txt_eq e e2 (h4 t a b)⟩
theorem fx_eq {S0 : ZG} {c : Int} {T : ZT} {G G' : ZG} (h : z_fx S0 c T G) (hc : c < 600) (hr : ∀ r, r < 11 ∨ (33 ≤ r ∧ r ≤ 56) ∨ (82 ≤ r ∧ r ≤ 84) ∨ 98 ≤ r → G' r = G r) (h5 : G' 81 5 = G 81 5) (h80 : G' 80 4 = G 80 4 ∧ G' 80 5 = G 80 5 ∧ G' 80 6 = G 80 6 ∧ G' 80 24 = -1 ∧ i_in (G' 80 25)) (ha : z_ask G' (c + 1)) : z_fx S0 (c + 1) T G' := by
  obtain ⟨f1, f2, f3, f4, f5, f6, f7, f8, f9, f10, f11, f12, f13⟩ := h
  obtain ⟨g1, g2, g3, g4, g5⟩ := h80
  have e82 := hr 82 (by omega)
  have e83 := hr 83 (by omega)
  refine ⟨fun r q => ?_, c_img_eq (fun r a b => hr r (by omega)) e82 f2, t_ok_eq (fun r a => hr r (by omega)) e83 h5 (by rw [e82]) f3, ?_, ?_, ⟨g4, g5⟩, ?_, ?_, ha, by omega, by omega, by omega, by unfold z_ts at *; rw [h5, e82]; exact f13⟩
  · rw [hr r (by omega)]; exact f1 r q
  · rw [h5]; exact f4
  · rw [e82]; exact f5
  · unfold z_tape at *
    rw [g1, hr 10 (by omega), hr 84 (by omega), hr 55 (by omega)]; exact f7
  · unfold z_flt at *
    rw [g2, g3, hr 56 (by omega)]; exact f8
theorem z_ask_up {G G' : ZG} {c : Int} (h : z_ask G c) (e : G' 61 = G 61) (e2 : G' 64 = G 64) : z_ask G' (c + 1) := by
  unfold z_ask at *
  rw [e, e2]
  exact ⟨h.1, by omega, h.2.2⟩
/-- a question: nothing that lasts has changed -/
theorem I_q {S0 : ZG} {c : Int} {T : ZT} {G G' : ZG} (h : z_I S0 c T G) (hc : c < 600) (hr : ∀ r, r < 61 ∨ (81 ≤ r ∧ r ≤ 84) ∨ 98 ≤ r → G' r = G r) (h80 : G' 80 4 = G 80 4 ∧ G' 80 5 = G 80 5 ∧ G' 80 6 = G 80 6 ∧ G' 80 24 = -1 ∧ i_in (G' 80 25)) (ha : z_ask G' (c + 1)) : z_I S0 (c + 1) T G' := by
  have e81 := hr 81 (by omega)
  exact ⟨c_now_eq (fun r a b => hr r (by omega)) e81 h.1, fx_eq h.2 hc (fun r a => hr r (by omega)) (by rw [e81]) h80 ha⟩
theorem I_same {S0 : ZG} {c : Int} {T : ZT} {G : ZG} (h : z_I S0 c T G) (hc : c < 600) : z_I S0 (c + 1) T G :=
  I_q h hc (fun _ _ => rfl) ⟨rfl, rfl, rfl, h.2.2.2.2.2.2.1.1, h.2.2.2.2.2.2.1.2⟩ (z_ask_up h.2.2.2.2.2.2.2.2.2.1 rfl rfl)
theorem I_cq {S0 : ZG} {c : Int} {T : ZT} {G : ZG} (h : z_I S0 c T G) : c_q T G := ⟨h.1, h.2.2.2.1⟩
theorem I_mq {S0 : ZG} {c : Int} {T : ZT} {G : ZG} (h : z_I S0 c T G) : m_q G := by
  have hh := h.2.2.2.2.2.2.1
  exact ⟨h.1.1, h.2.2.2.1.1, ⟨by omega, by omega⟩, hh.2⟩
theorem I_hic {S0 : ZG} {c : Int} {T : ZT} {G : ZG} (h : z_I S0 c T G) : G 80 24 = -1 := h.2.2.2.2.2.2.1.1
/-- a pair of calls that keep the texts: the class's (an answer, rows with P), then the model's -/
theorem pr_mid {S0 : ZG} {c : Int} {T : ZT} {G : ZG} {f g : ZM → ZR} (v : ZV) (P : ZG → Prop) (hf : ∀ s, z_ok (f (z_Y T G s)) (fun y τ => y = v ∧ ∃ G1 s1, τ = z_Y T G1 s1 ∧ P G1)) (hg : ∀ G1 s1, P G1 → z_ok (g (z_Y T G1 s1)) (fun y τ => y = v ∧ ∃ G2 s2, τ = z_Y T G2 s2 ∧ z_I S0 (c + 1) T G2)) : z_pwr S0 c T G f g := by
  intro s
  refine ok_mono (hf s) ?_
  rintro v' τ ⟨rfl, G1, s1, rfl, hP⟩
  refine ok_mono (hg G1 s1 hP) ?_
  rintro v'' τ' ⟨rfl, G2, s2, rfl, hI⟩
  exact ⟨rfl, T, G2, s2, rfl, hI, rfl⟩
theorem ok_qe {x : ZR} {T : ZT} {G : ZG} {v : ZV} {P : ZG → Prop} (h : z_ok x (z_q T G v)) (hP : P G) : z_ok x (fun y τ => y = v ∧ ∃ G1 s1, τ = z_Y T G1 s1 ∧ P G1) :=
  ok_mono h (fun y τ ⟨e, s, e2⟩ => ⟨e, G, s, e2, hP⟩)
/-- a pair of questions that change nothing at all -/
theorem pr_same {S0 : ZG} {c : Int} {T : ZT} {G : ZG} {f g : ZM → ZR} (v : ZV) (h : z_I S0 c T G) (hc : c < 600) (hf : ∀ s, z_ok (f (z_Y T G s)) (z_q T G v)) (hg : ∀ s, z_ok (g (z_Y T G s)) (z_q T G v)) : z_pwr S0 c T G f g :=
  pr_mid v (fun G1 => G1 = G) (fun s => ok_qe (hf s) rfl) (fun G1 s1 e => by rw [e]; exact ok_qe (hg s1) (I_same h hc))

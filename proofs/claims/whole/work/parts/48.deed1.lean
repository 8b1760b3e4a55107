/-! THE PURE PART, 28: seat, person, note -/
theorem st_mono {B A A' : Int → Int} {x y : Int} (h : c_st B A x y) (hx : 186 ≤ x) (h1 : ∀ k, 106 ≤ k → A' k = A k) (h11 : A' 11 = A 11) (h0 : A 0 ≤ A' 0) (hp : A 1 ≤ A' 1) : c_st B A' x y := by
  obtain ⟨s1, s2, s3, s4, s5, s6, s7, s8, s9⟩ := h
  unfold c_st
  rw [h1 x (by omega), h1 (x + 1) (by omega), h1 (x + 2) (by omega), h1 (x + 3) (by omega), h1 (x + 4) (by omega), h11]
  refine ⟨by omega, fun p a b => ?_, s3, fun p q a b c e f => ?_, s5, s6, s7, s8, fun k a b => ?_⟩
  · have := s2 p a b
    rw [h1 _ (by omega), h1 _ (by omega)]
    exact ⟨this.1, by omega, this.2.2⟩
  · rw [h1 _ (by omega), h1 _ (by omega)] at f
    rw [h1 _ (by omega)]
    exact s4 p q a b c e f
  · rw [h1 _ (by omega), h1 _ (by omega)]; exact s9 k a b
/-- the steps, if only what is told has grown -/
theorem sp_mono {h h' : ZG} {A A' : Int → Int} (hc : c_sp h A) (e1 : h' 14 = h 14) (e2 : h' 15 = h 15) (e7 : A' 7 = A 7) (h1 : ∀ k, 106 ≤ k → A' k = A k) (h11 : A' 11 = A 11) (h0 : A 0 ≤ A' 0) (hp : A 1 ≤ A' 1) : c_sp h' A' := by
  obtain ⟨s1, s2, s3, s4⟩ := hc
  unfold c_sp
  rw [e1, e2, e7]
  refine ⟨s1, s2, fun j a b => st_mono (s3 j a b) (by omega) h1 h11 h0 hp, fun i j a b c => ?_⟩
  rw [h1 _ (by omega), h1 _ (by omega)]; exact s4 i j a b c
theorem I_deed {S0 : ZG} {c : Int} {T : ZT} {G G2 : ZG} (h : z_I S0 c T G) (hc : c < 600) (hr : ∀ r, ¬ (11 ≤ r ∧ r ≤ 32) → r ≠ 81 → G2 r = G r) (h5 : G2 81 5 = G 81 5) (hn : c_now G2) : z_I S0 (c + 1) T G2 := by
  refine ⟨hn, fx_eq h.2 hc (fun r a => hr r (by omega) (by omega)) h5 ?_ (z_ask_up h.2.2.2.2.2.2.2.2.2.1 (hr 61 (by omega) (by omega)) (hr 64 (by omega) (by omega)))⟩
  rw [hr 80 (by omega) (by omega)]
  exact ⟨rfl, rfl, rfl, h.2.2.2.2.2.2.1.1, h.2.2.2.2.2.2.1.2⟩
/-- class rows beside any model row -/
abbrev c_nw (A : Int → Int) (G : ZG) : Prop := c_sd (fun r => G (11 + r)) A
theorem dw_h {A : Int → Int} {G : ZG} (h : c_nw A G) : G 11 0 = A 0 ∧ G 11 3 = A 1 ∧ G 11 7 = A 2 ∧ G 11 10 = A 5 ∧ G 11 12 = A 6 := ⟨h.2.2.1.1, h.2.2.1.2.1, h.2.2.1.2.2.1, h.2.2.1.2.2.2.1, h.2.2.1.2.2.2.2.1⟩
theorem dw_s {A : Int → Int} {G : ZG} (h : c_nw A G) : ∀ k, 0 ≤ k → k < A 0 → G 12 k = A (12 + 2 * k) ∧ G 13 k = A (12 + 2 * k + 1) := h.2.2.1.2.2.2.2.2.1
theorem dw_p {A : Int → Int} {G : ZG} (h : c_nw A G) : ∀ p, 0 ≤ p → p < A 1 → G 14 p = A (32 + 5 * p) ∧ G 15 p = A (32 + 5 * p + 1) ∧ G 16 p = A (32 + 5 * p + 2) := h.2.2.1.2.2.2.2.2.2.1
theorem dw_n {A : Int → Int} {G : ZG} (h : c_nw A G) : ∀ n, 0 ≤ n → n < A 2 → G 17 n = A (82 + 2 * n) ∧ G 18 n = A (82 + 2 * n + 1) := h.2.2.1.2.2.2.2.2.2.2
theorem dw_m {A : Int → Int} {G : ZG} (h : c_nw A G) : G 20 2 = A 8 ∧ G 20 3 = A 3 ∧ G 20 4 = A 4 ∧ G 20 5 = A 11 := h.2.2.2.1.1
theorem dw_o {A : Int → Int} {G : ZG} (h : c_nw A G) : ∀ p, 0 ≤ p → p < A 1 → G 21 p = A (32 + 5 * p + 3) ∧ G 22 p = A (32 + 5 * p + 4) := h.2.2.2.1.2.1
theorem dw_u {A : Int → Int} {G : ZG} (h : c_nw A G) : ∀ p, A 1 ≤ p → p < 10 → G 21 p = -1 ∧ G 22 p = 0 := h.2.2.2.1.2.2.1
theorem dw_c {A : Int → Int} {G : ZG} (h : c_nw A G) : ∀ k, 0 ≤ k → k < A 11 → G 23 k = A (106 + 2 * k) ∧ G 24 k = A (106 + 2 * k + 1) := h.2.2.2.1.2.2.2
theorem dw_b {A : Int → Int} {G : ZG} (h : c_nw A G) : G 27 0 = A 9 ∧ (∀ k, 0 ≤ k → k < A 9 → G 28 k = A (146 + 2 * k) ∧ G 29 k = A (146 + 2 * k + 1)) := ⟨h.2.2.2.2.1.1, h.2.2.2.2.1.2.1⟩
theorem dw_e {A : Int → Int} {G : ZG} (h : c_nw A G) : G 27 3 = A 10 ∧ (∀ k, 0 ≤ k → k < A 10 → G 30 k = A (162 + 3 * k) ∧ G 31 k = A (162 + 3 * k + 1) ∧ G 32 k = A (162 + 3 * k + 2)) := ⟨h.2.2.2.2.1.2.2.1, h.2.2.2.2.1.2.2.2⟩
theorem dw_t {A : Int → Int} {G : ZG} (h : c_nw A G) : G 25 2 = A 7 := h.2.2.2.2.2.1
/-- a deed: the class's call at a world whose class rows stand beside some model row; the model's at any world whose row stands beside them: the same answer, and the new rows stand beside one another -/
def z_dd (k : Prop) (T : ZT) (G : ZG) (f g : ZM → ZR) : Prop := ∃ (v : Int32) (G' : ZG), (k → z_fit 1 v = true) ∧ (∀ s, z_ok (f (z_Y T G s)) (z_q T G' (vi v))) ∧ (∀ r, ¬ (11 ≤ r ∧ r ≤ 32) → G' r = G r) ∧ ∀ A Gm s, c_nw A G → Gm 81 = A → m_q Gm → Gm 83 = G 83 → z_ok (g (z_Y T Gm s)) (fun y τ => y = vi v ∧ ∃ A' s', τ = z_Y T (z_up Gm 81 A') s' ∧ c_nw A' G' ∧ A' 5 = A 5)
theorem dd_same {k : Prop} {T : ZT} {G : ZG} {f g : ZM → ZR} (v : Int32) (hk : k → z_fit 1 v = true) (hf : ∀ s, z_ok (f (z_Y T G s)) (z_q T G (vi v))) (hg : ∀ A Gm s, c_nw A G → Gm 81 = A → m_q Gm → Gm 83 = G 83 → z_ok (g (z_Y T Gm s)) (z_q T Gm (vi v))) : z_dd k T G f g :=
  ⟨v, G, hk, hf, fun _ _ => rfl, fun A Gm s hC e q e2 => ok_mono (hg A Gm s hC e q e2) (fun y τ ⟨h, s', h2⟩ => ⟨h, A, s', by rw [h2, z_up_self e.symm], hC, rfl⟩)⟩
theorem pr_dd {k : Prop} {S0 : ZG} {c : Int} {T : ZT} {G : ZG} {f g : ZM → ZR} (h : z_I S0 c T G) (hc : c < 600) (hd : z_dd k T G f g) : z_pwr S0 c T G f g := by
  obtain ⟨v, G', -, hf, hr, hg⟩ := hd
  have e81 := hr 81 (by omega)
  have e83 := hr 83 (by omega)
  have e80 := hr 80 (by omega)
  have hq : m_q G' := by unfold m_q; rw [e81, e83, e80]; exact I_mq h
  refine pr_mid (vi v) (fun G1 => G1 = G') (fun s => ok_qe (hf s) rfl) ?_
  rintro G1 s1 rfl
  refine ok_mono (hg (G 81) G1 s1 h.1 e81 hq e83) ?_
  rintro y τ ⟨rfl, A', s2, rfl, hn, h5⟩
  refine ⟨rfl, _, s2, rfl, I_deed h hc (fun r a b => ?_) ?_ ?_⟩
  · rw [z_up_ne _ _ b]; exact hr r a
  · rw [z_up_eq]; exact h5
  · unfold c_now
    rw [z_up_eq]
    exact c_sd_eq (fun r a => z_up_ne _ _ (by omega)) hn

/-! THE PURE PART, 102: a new text beside the model's; the old ones are kept -/
def u_cl (c : UC) : Prop := (0 ≤ c.1 ∧ c.1 ≤ 12) ∧ (c.1 ≤ 1 → l_wf al_b c.2.2 0 0 1 0) ∧ (c.1 = 2 → l_wf al_h c.2.2 0 0 0 1) ∧ (3 ≤ c.1 → c.2.1.length = (j_fm c.1).length ∧ ∀ i : Nat, i < c.2.1.length → i_in (c.2.1.getD i 0))
theorem j_nums_ok {K V : Nat → Int} (hV : ∀ j, 0 ≤ V j ∧ V j ≤ 10000) : ∀ (l : List (Int × Int × Int)) (j : Nat), (j_nums K V l j).1 = 0 → (j_nums K V l j).2.2.length = l.length ∧ ∀ i : Nat, i < (j_nums K V l j).2.2.length → i_in ((j_nums K V l j).2.2.getD i 0)
  | [], _, _ => ⟨rfl, fun i h => absurd h (Nat.not_lt_zero _)⟩
  | f :: l, j, h => by
    rw [j_nums_c] at h ⊢
    by_cases c : K j = f.1
    · rw [if_pos c] at h ⊢
      unfold j_tail at h ⊢
      by_cases c2 : K (j + 1) = 2
      · rw [if_pos c2] at h ⊢
        by_cases c3 : f.2.1 ≤ V (j + 1) ∧ V (j + 1) ≤ f.2.2
        · rw [if_pos c3] at h ⊢
          obtain ⟨a1, a2⟩ := j_nums_ok hV l (j + 1 + 1) h
          refine ⟨congrArg (· + 1) a1, fun i hi => ?_⟩
          cases i with
          | zero => have := hV (j + 1); exact ⟨by show -2147483648 ≤ V (j + 1); omega, by show V (j + 1) < 2147483648; omega⟩
          | succ i => exact a2 i (Nat.lt_of_succ_lt_succ hi)
        · rw [if_neg c3] at h; cases h
      · rw [if_neg c2] at h; cases h
    · rw [if_neg c] at h; cases h
theorem u_clz {K V : Nat → Int} (hV : ∀ j, 0 ≤ V j ∧ V j ≤ 10000) {cs : List UC} {j : Nat} (h : (j_clz K V cs j).1 = 0) : u_cl (j_clz K V cs j).2.2 := by
  have cz := j_clz_b (K := K) (V := V) (cs := cs) (j := j)
  by_cases s0 : n_so (K j) < 0
  · have e0 : j_clz K V cs j = (1, j, (0, [], [])) := if_pos s0
    rw [e0] at h; cases h
  by_cases s4 : n_so (K j) ≤ 2 ∧ (j_fd (n_so (K j)) cs).isSome = true
  · have e0 : j_clz K V cs j = (4, j, (0, [], [])) := (if_neg s0).trans (if_pos s4)
    rw [e0] at h; cases h
  by_cases s6 : 24 ≤ cs.length
  · have e0 : j_clz K V cs j = (6, j, (0, [], [])) := ((if_neg s0).trans (if_neg s4)).trans (if_pos s6)
    rw [e0] at h; cases h
  rw [cz s0 s4 s6] at h ⊢
  have si := n_so_in (K j)
  have hf : (j_bd2 K V (n_so (K j)) j).1 = 0 := by
    unfold j_sc at h
    by_cases c : (j_bd2 K V (n_so (K j)) j).1 = 0
    · exact c
    · rw [if_neg c] at h; exact absurd h c
  have e1 : (j_sc K (j_bd2 K V (n_so (K j)) j).1 (j_bd2 K V (n_so (K j)) j).2.1 (j_bd2 K V (n_so (K j)) j).2.2).2.2 = (j_bd2 K V (n_so (K j)) j).2.2 := by
    unfold j_sc
    repeat' split
    all_goals rfl
  rw [e1]
  generalize n_so (K j) = q at *
  unfold j_bd2 at hf ⊢
  by_cases q2 : q ≤ 2
  · rw [if_pos q2] at hf ⊢
    have lw := l_law (K := K) (V := V) (fun j => (hV j).1) (q := q) (by omega) (j := j + 1) hf
    exact ⟨by show 0 ≤ q ∧ q ≤ 12; omega, lw.1, lw.2, fun a => by have a' : 3 ≤ q := a; omega⟩
  · rw [if_neg q2] at hf ⊢
    exact ⟨by show 0 ≤ q ∧ q ≤ 12; omega, fun a => by have a' : q ≤ 1 := a; omega, fun a => by have a' : q = 2 := a; omega, fun _ => j_nums_ok hV (j_fm q) j hf⟩
theorem u_tx {K V : Nat → Int} (hV : ∀ j, 0 ≤ V j ∧ V j ≤ 10000) : ∀ (m : Nat) (cs : List UC) (j : Nat), (∀ c, c ∈ cs → u_cl c) → ∀ c, c ∈ (j_tx K V m cs j).2.2 → u_cl c
  | 0, _, _, h => h
  | m + 1, cs, j, h => by
    unfold j_tx
    by_cases k0 : K j = 0
    · rw [if_pos k0]; exact h
    · rw [if_neg k0]
      by_cases z : (j_clz K V cs j).1 = 0
      · rw [if_pos z]
        refine u_tx hV m _ _ (fun c hc => ?_)
        rcases List.mem_append.mp hc with a | a
        · exact h c a
        · rw [List.mem_singleton.mp a]; exact u_clz hV z
      · rw [if_neg z]; exact h
theorem u_get {cs : List UC} (h : ∀ c, c ∈ cs → u_cl c) {i : Nat} (hi : i < cs.length) : u_cl (cs.getD i (0, [], [])) := by
  rw [List.getD_eq_getElem?_getD, List.getElem?_eq_getElem hi]
  exact h _ (List.getElem_mem hi)
theorem l_wf_e {al : Int → Bool} {X : Int → Int} {c nf mf : Int} : ∀ (C : List (Int × Int)) (i n m : Int), (∀ k : Nat, k < C.length → X (c + 2 * (i + k)) = (C.getD k (0, 0)).1 ∧ X (c + 2 * (i + k) + 1) = (C.getD k (0, 0)).2) → l_wf al C n m nf mf → e_wf al X c nf mf C.length i n m
  | [], _, _, _, _, h => h
  | a :: C, i, n, m, hX, ⟨h1, h2⟩ => by
    have x0 : X (c + 2 * (i + (0 : Nat))) = a.1 ∧ X (c + 2 * (i + (0 : Nat)) + 1) = a.2 := hX 0 (Nat.zero_lt_succ _)
    rw [show i + ((0 : Nat) : Int) = i by omega] at x0
    show e_wo al (X (c + 2 * i)) (X (c + 2 * i + 1)) n m ∧ e_wf al X c nf mf C.length (i + 1) (e_n (X (c + 2 * i)) n) (e_m (X (c + 2 * i)) m)
    rw [x0.1, x0.2]
    refine ⟨h1, l_wf_e C (i + 1) _ _ (fun k hk => ?_) h2⟩
    have xk := hX (k + 1) (Nat.succ_lt_succ hk)
    rw [show i + ((k + 1 : Nat) : Int) = i + 1 + k by omega] at xk
    exact xk
theorem e_wf_eq {al : Int → Bool} {X X' : Int → Int} {c nf mf : Int} : ∀ (k : Nat) (i n m : Int), (∀ z, c + 2 * i ≤ z → z < c + 2 * (i + k) → X' z = X z) → e_wf al X c nf mf k i n m → e_wf al X' c nf mf k i n m
  | 0, _, _, _, _, h => h
  | k + 1, i, n, m, e, ⟨h1, h2⟩ => by
    show e_wo al (X' (c + 2 * i)) (X' (c + 2 * i + 1)) n m ∧ e_wf al X' c nf mf k (i + 1) (e_n (X' (c + 2 * i)) n) (e_m (X' (c + 2 * i)) m)
    rw [e (c + 2 * i) (by omega) (by omega), e (c + 2 * i + 1) (by omega) (by omega)]
    exact ⟨h1, e_wf_eq k (i + 1) _ _ (fun z a b => e z (by omega) (by omega)) h2⟩
theorem x_law_keep {X X' : Int → Int} {al : Int → Bool} {nf mf t k : Int} (e : ∀ i, 705 * t ≤ i → i < 705 * t + 705 → X' i = X i) (hk : 0 ≤ k ∧ k < 24) (h : x_law X al nf mf t k) : x_law X' al nf mf t k := by
  obtain ⟨h1, h2, h3, h4⟩ := h
  unfold x_law
  rw [e (705 * t + 1 + 4 * k + 1) (by omega) (by omega), e (705 * t + 1 + 4 * k + 2) (by omega) (by omega)]
  exact ⟨h1, h2, h3, e_wf_eq _ _ _ _ (fun z a b => e z (by omega) (by omega)) h4⟩
theorem x_ok_keep {X X' : Int → Int} {t : Int} (e : ∀ i, 705 * t ≤ i → i < 705 * t + 705 → X' i = X i) (h : x_ok X t) : x_ok X' t := by
  obtain ⟨h1, h2⟩ := h
  unfold x_ok
  rw [e (705 * t) (by omega) (by omega)]
  refine ⟨h1, fun k a b => ?_⟩
  rw [e (705 * t + 1 + 4 * k) (by omega) (by omega)]
  obtain ⟨k1, k2, k3⟩ := h2 k a b
  exact ⟨k1, fun z => x_law_keep e (by omega) (k2 z), fun z => x_law_keep e (by omega) (k3 z)⟩
theorem m_cl_keep {X X' : Int → Int} {t q : Int} (e : ∀ i, 705 * t ≤ i → i < 705 * t + 705 → X' i = X i) (h : x_ok X t) : m_cl X' t q = m_cl X t q := by
  unfold m_cl
  have h1 := h.1
  by_cases c : t < 0
  · rw [if_pos c, if_pos c]
  · rw [if_neg c, if_neg c, e (705 * t) (by omega) (by omega)]
    exact z_find_eq _ _ (fun k a b => by rw [e _ (by omega) (by omega)])
theorem t_law_keep {T T' : ZT} {G G' : ZG} {t q : Int} {r : Nat} (hq : 0 ≤ q ∧ q ≤ 2) (hx : x_ok (G 83) t) (e : ∀ i, 705 * t ≤ i → i < 705 * t + 705 → G' 83 i = G 83 i) (hr : r < T.2.2.1) (k1 : ∀ a, a < T.2.2.1 → T'.1 a = T.1 a) (g : ∀ a, 98 ≤ a → a < T.2.2.1 → G' a = G a) (h : t_law T G t q r) : t_law T' G' t q r := by
  unfold t_law at *
  rw [m_cl_keep e hx]
  rcases h with h | ⟨h1, h2, h3, h4⟩
  · exact Or.inl h
  · refine Or.inr ⟨h1, h2, ?_⟩
    obtain ⟨ci, cq, ct⟩ := m_cl_in h2 hx
    have h0 := hx.1
    have hk := hx.2 _ h2 ci
    rw [cq] at hk
    have lb : 0 ≤ G 83 (705 * t + 1 + 4 * m_cl (G 83) t q + 1) ∧ G 83 (705 * t + 1 + 4 * m_cl (G 83) t q + 2) ≤ 300 := by
      by_cases c : q ≤ 1
      · have := hk.2.1 c; exact ⟨this.1, this.2.2.1⟩
      · have := hk.2.2 (by omega); exact ⟨this.1, this.2.2.1⟩
    rw [e (705 * t + 1 + 4 * m_cl (G 83) t q + 1) (by omega) (by omega), e (705 * t + 1 + 4 * m_cl (G 83) t q + 2) (by omega) (by omega), g r h1 hr, z_kt_cg (k1 r hr)]
    refine ⟨h3, fun i a b => ?_⟩
    rw [e _ (by omega) (by omega), e _ (by omega) (by omega)]
    exact h4 i a b
theorem t_txt_keep {T T' : ZT} {G G' : ZG} {t : Int} {r : Nat} (hx : x_ok (G 83) t) (e : ∀ i, 705 * t ≤ i → i < 705 * t + 705 → G' 83 i = G 83 i) (lt : t_lt T r) (k1 : ∀ a, a < T.2.2.1 → T'.1 a = T.1 a) (k2 : ∀ a k, 98 ≤ a → a < T.2.2.1 → T'.2.1 a k = T.2.1 a k) (g : ∀ a, 98 ≤ a → a < T.2.2.1 → G' a = G a) (h : t_txt T G t r) : t_txt T' G' t r := by
  obtain ⟨h1, h2, h3, h4, h5, h6, h7, h8, h9⟩ := h
  obtain ⟨l0, l1, l2, l3, l4⟩ := lt
  have rt : ∀ k, z_rt T' r k = z_rt T r k := fun k => z_rt_cg (k2 r k h1 l0)
  have h0 := hx.1
  unfold t_txt
  rw [rt, rt, rt, rt, z_kt_cg (k1 r l0), z_kt_cg (k1 _ l4), g r h1 l0, g _ h7 l4, e (705 * t) (by omega) (by omega)]
  refine ⟨h1, h2, t_law_keep (by omega) hx e l1 k1 g h3, t_law_keep (by omega) hx e l2 k1 g h4, t_law_keep (by omega) hx e l3 k1 g h5, h6, h7, h8, fun k a b => ?_⟩
  rw [e (705 * t + 1 + 4 * k) (by omega) (by omega), e (705 * t + 1 + 4 * k + 1) (by omega) (by omega), e (705 * t + 1 + 4 * k + 2) (by omega) (by omega), e (705 * t + 1 + 4 * k + 3) (by omega) (by omega)]
  exact h9 k a b
theorem n_cl_at {X : Int → Int} {t0 : Int} : ∀ (cs : List UC) (k0 : Nat) (w : Int), n_cl X t0 k0 w cs → ∀ i : Nat, i < cs.length → ∃ w', n_k X t0 (k0 + i) w' (cs.getD i (0, [], [])) ∧ w ≤ w' ∧ w' + (cs.getD i (0, [], [])).2.2.length ≤ w + n_w cs
  | [], _, _, _, i, hi => absurd hi (Nat.not_lt_zero _)
  | c :: cs, k0, w, ⟨h1, h2⟩, i, hi => by
    cases i with
    | zero =>
      refine ⟨w, h1, Int.le_refl _, ?_⟩
      show w + (c.2.2.length : Int) ≤ w + ((c.2.2.length + n_w cs : Nat) : Int)
      omega
    | succ i =>
      obtain ⟨w', a1, a2, a3⟩ := n_cl_at cs (k0 + 1) _ h2 i (Nat.lt_of_succ_lt_succ hi)
      refine ⟨w', ?_, by omega, ?_⟩
      · rw [show k0 + (i + 1) = k0 + 1 + i by omega]; exact a1
      · show w' + ((cs.getD i (0, [], [])).2.2.length : Int) ≤ w + ((c.2.2.length + n_w cs : Nat) : Int)
        omega
theorem n_fd {X : Int → Int} {t0 q : Int} : ∀ (cs : List UC) (k0 : Nat) (w : Int), n_cl X t0 k0 w cs → (j_fd q cs = none → z_find cs.length k0 (fun k => decide (X (t0 + 1 + 4 * k) = q)) = -1) ∧ ∀ D, j_fd q cs = some D → ∃ i : Nat, i < cs.length ∧ z_find cs.length k0 (fun k => decide (X (t0 + 1 + 4 * k) = q)) = k0 + i ∧ (cs.getD i (0, [], [])).2.2 = D ∧ (cs.getD i (0, [], [])).1 = q
  | [], _, _, _ => ⟨fun _ => rfl, fun D h => by cases h⟩
  | c :: cs, k0, w, ⟨h1, h2⟩ => by
    have ih := n_fd (q := q) cs (k0 + 1) _ h2
    have e0 : X (t0 + 1 + 4 * (k0 : Int)) = c.1 := h1.1
    have ez : z_find (c :: cs).length k0 (fun k => decide (X (t0 + 1 + 4 * k) = q)) = cond (decide (c.1 = q)) (k0 : Int) (z_find cs.length ((k0 : Int) + 1) (fun k => decide (X (t0 + 1 + 4 * k) = q))) := by
      show cond (decide (X (t0 + 1 + 4 * (k0 : Int)) = q)) _ _ = _
      rw [e0]
    rw [ez]
    have ef : j_fd q (c :: cs) = if c.1 = q then some c.2.2 else j_fd q cs := rfl
    rw [ef]
    by_cases z : c.1 = q
    · rw [if_pos z, decide_eq_true z]
      refine ⟨fun a => (by cases a), fun D a => ⟨0, Nat.zero_lt_succ _, ?_, ?_, z⟩⟩
      · show (k0 : Int) = k0 + ((0 : Nat) : Int); omega
      · exact Option.some.inj a
    · rw [if_neg z, decide_eq_false z]
      refine ⟨fun a => ih.1 a, fun D a => ?_⟩
      obtain ⟨i, b1, b2, b3, b4⟩ := ih.2 D a
      refine ⟨i + 1, Nat.succ_lt_succ b1, ?_, b3, b4⟩
      show z_find cs.length ((k0 : Int) + 1) _ = _
      rw [show ((k0 : Int) + 1) = ((k0 + 1 : Nat) : Int) by omega, b2]; omega
theorem j_fm_len {q : Int} (hq : 3 ≤ q ∧ q ≤ 12) : 1 ≤ (j_fm q).length ∧ (q ≤ 6 → 2 ≤ (j_fm q).length) ∧ (q = 4 → 3 ≤ (j_fm q).length) := by
  have a : ∀ n : Nat, n < 10 → 1 ≤ (j_fm ((n + 3 : Nat) : Int)).length ∧ (((n + 3 : Nat) : Int) ≤ 6 → 2 ≤ (j_fm ((n + 3 : Nat) : Int)).length) ∧ (((n + 3 : Nat) : Int) = 4 → 3 ≤ (j_fm ((n + 3 : Nat) : Int)).length) := by decide +kernel
  have := a (q - 3).toNat (by omega)
  rwa [show (((q - 3).toNat + 3 : Nat) : Int) = q by omega] at this
theorem t_new {T : ZT} {G : ZG} {cs : List UC} {r m : Nat} {t : Int} (hu : ∀ c, c ∈ cs → u_cl c) (ht : 0 ≤ t) (hm : 98 ≤ m) (hr : m + 1 ≤ r) (h9 : T.1 r = (9, 0)) (h3 : T.2.1 r 3 = r - 1) (hk : T.1 (r - 1) = (20, 4 * cs.length)) (h4 : G r 4 = cs.length) (hkl : ∀ k : Nat, k < cs.length → q_kl (G (r - 1)) k (cs.getD k (0, [], []))) (hlw : ∀ q : Nat, q < 3 → q_lw T G m (T.2.1 r q) (j_fd q cs)) (hX : G 83 (705 * t) = cs.length) (hcl : n_cl (G 83) (705 * t) 0 0 cs) (hw : n_w cs ≤ 300) (h24 : cs.length ≤ 24) : x_ok (G 83) t ∧ t_txt T G t r := by
  have get : ∀ k : Int, 0 ≤ k → k < cs.length → ∃ (i : Nat) (c : UC) (w : Int), k = i ∧ i < cs.length ∧ c = cs.getD i (0, [], []) ∧ n_k (G 83) (705 * t) i w c ∧ 0 ≤ w ∧ w + c.2.2.length ≤ 300 ∧ u_cl c ∧ q_kl (G (r - 1)) i c := fun k a b => by
    obtain ⟨w, b1, b2, b3⟩ := n_cl_at cs 0 0 hcl k.toNat (by omega)
    rw [show 0 + k.toNat = k.toNat by omega] at b1
    exact ⟨k.toNat, _, w, by omega, by omega, rfl, b1, b2, by omega, u_get hu (by omega), hkl _ (by omega)⟩
  refine ⟨⟨by rw [hX]; omega, fun k a b => ?_⟩, ?_⟩
  · rw [hX] at b
    obtain ⟨i, c, w, rfl, i1, ec, n1, w0, w3, u, kl⟩ := get k a b
    obtain ⟨n1, n2, n3, n4⟩ := n1
    rw [n1]
    have law : ∀ (al : Int → Bool) (nf mf : Int), c.1 ≤ 2 → l_wf al c.2.2 0 0 nf mf → x_law (G 83) al nf mf t i := fun al nf mf q l => by
      obtain ⟨a1, a2, a3⟩ := n4 q
      unfold x_law
      rw [a1, a2]
      refine ⟨w0, by omega, w3, ?_⟩
      rw [show (w + (c.2.2.length : Int) - w).toNat = c.2.2.length by omega]
      exact l_wf_e c.2.2 w 0 0 a3 l
    exact ⟨u.1, fun q => law _ _ _ (by omega) (u.2.1 q), fun q => law _ _ _ (by omega) (u.2.2.1 q)⟩
  · have rt : ∀ k, z_rt T r k = T.2.1 r k := fun k => z_rt_hi T k (by omega)
    have mcl : ∀ q : Int, m_cl (G 83) t q = z_find cs.length 0 (fun k => decide (G 83 (705 * t + 1 + 4 * k) = q)) := fun q => by
      unfold m_cl
      rw [if_neg (by omega), hX, show ((cs.length : Int)).toNat = cs.length by omega]
    have law : ∀ q : Nat, q < 3 → t_law T G t q (T.2.1 r q) := fun q hq => by
      have l := hlw q hq
      have f := n_fd (q := (q : Int)) cs 0 0 hcl
      have mc := mcl (q : Int)
      unfold t_law
      cases z : j_fd (q : Int) cs with
      | none =>
        rw [z] at l
        refine Or.inl ⟨l, ?_⟩
        rw [mc]
        have f1 := f.1 z
        rw [show ((0 : Nat) : Int) = 0 from rfl] at f1
        rw [f1]; decide
      | some D =>
        rw [z] at l
        obtain ⟨l1, l2, l3, l4, l5⟩ := l
        obtain ⟨i, b1, b2, b3, b4⟩ := f.2 D z
        rw [show ((0 : Nat) : Int) = 0 from rfl] at b2
        have ei : m_cl (G 83) t q = i := by rw [mc, b2]; omega
        obtain ⟨i', c, w, i2, i1, ec, n1, w0, w3, u, kl⟩ := get i (by omega) (by omega)
        have ei' : i' = i := by omega
        subst ei'
        rw [← ec] at b3 b4
        obtain ⟨n1, n2, n3, n4⟩ := n1
        obtain ⟨a1, a2, a3⟩ := n4 (by omega)
        refine Or.inr ⟨by omega, by omega, ?_⟩
        rw [ei, a1, a2, b3, show w + (D.length : Int) - w = D.length by omega, z_kt_hi T (by omega), show ((D.length : Int)).toNat = D.length by omega]
        refine ⟨l3, fun k a b => ?_⟩
        have x := a3 k.toNat (by rw [b3]; omega)
        have y := l5 k.toNat (by omega)
        rw [show ((k.toNat : Nat) : Int) = k by omega] at x y
        rw [b3] at x
        rw [x.1, x.2]; exact y
    refine ⟨by omega, by rw [z_kt_hi T (by omega), h9], by rw [rt]; exact law 0 (by omega), by rw [rt]; exact law 1 (by omega), by rw [rt]; exact law 2 (by omega), by rw [h4, hX], by rw [rt, h3]; omega, ?_, fun k a b => ?_⟩
    · rw [rt, h3, z_kt_hi T (by omega), hk, hX, show (4 * (cs.length : Int)).toNat = 4 * cs.length by omega]
    · rw [hX] at b
      rw [rt, h3]
      obtain ⟨i, c, w, rfl, i1, ec, n1, w0, w3, u, k1, k2, k3⟩ := get k a b
      obtain ⟨n1, n2, n3, n4⟩ := n1
      rw [n1]
      refine ⟨k1, fun q => ?_⟩
      obtain ⟨ul, ui⟩ := u.2.2.2 q
      have fl := j_fm_len (q := c.1) ⟨q, u.1.2⟩
      have at' : ∀ x : Nat, x < c.2.1.length → G (r - 1) (4 * (i : Int) + 1 + x) = G 83 (705 * t + 1 + 4 * i + 1 + x) ∧ i_in (G 83 (705 * t + 1 + 4 * i + 1 + x)) := fun x hx => by
        rw [k3 x hx, n3 x hx]; exact ⟨rfl, ui x hx⟩
      have x0 := at' 0 (by omega)
      rw [show 4 * (i : Int) + 1 + ((0 : Nat) : Int) = 4 * (i : Int) + 1 by omega, show 705 * t + 1 + 4 * (i : Int) + 1 + ((0 : Nat) : Int) = 705 * t + 1 + 4 * (i : Int) + 1 by omega] at x0
      refine ⟨x0.1, x0.2, fun q6 => ?_, fun q4 => ?_⟩
      · have x1 := at' 1 (by have := fl.2.1 q6; omega)
        rw [show 4 * (i : Int) + 1 + ((1 : Nat) : Int) = 4 * (i : Int) + 2 by omega, show 705 * t + 1 + 4 * (i : Int) + 1 + ((1 : Nat) : Int) = 705 * t + 1 + 4 * (i : Int) + 2 by omega] at x1
        exact x1
      · have x2 := at' 2 (by have := fl.2.2 q4; omega)
        rw [show 4 * (i : Int) + 1 + ((2 : Nat) : Int) = 4 * (i : Int) + 3 by omega, show 705 * t + 1 + 4 * (i : Int) + 1 + ((2 : Nat) : Int) = 705 * t + 1 + 4 * (i : Int) + 3 by omega] at x2
        exact x2

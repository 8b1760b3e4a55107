theorem z_uw (w : Cond) {i : Nat} (hi : i < 12) (h : w ∈ u_ws (z_R i) (z_T i) (z_nf i)) : goodWord w = true := by
  unfold u_ws at h
  obtain ⟨k, -, rfl⟩ := List.mem_map.mp h
  unfold u_lay
  split <;> rfl
/-! rows that touch the heap -/
theorem z_ix_in {i : Int32} {n : Nat} (h : z_ix i n = true) : vp_in i n := by
  unfold z_ix at h
  simp only [Bool.and_eq_true, decide_eq_true_eq] at h
  intro hc
  rcases hc with hc | hc
  · exact absurd h.1 (Int32.not_le.mpr hc)
  · omega
theorem z_at_kd {σ : ZM} {r kd : Nat} {i : Int32} (h : z_at σ r kd i = true) : z_kd σ r = kd ∧ z_ix i (z_ln σ r) = true := by
  unfold z_at at h
  simp only [Bool.and_eq_true, beq_iff_eq] at h
  exact h
theorem z_cell_obj {cA : Nat → ClassId} {A : Nat → Value} {base : Nat} {σ : ZM} {r i : Nat} (hi : i < 12) (h : z_kd σ r = i + 1) : z_cell cA A base σ r = .inr (i, z_fs A σ r i) := by
  unfold z_cell
  rw [h]
  match i, hi with
  | 0, _ => rfl
  | 1, _ => rfl
  | 2, _ => rfl
  | 3, _ => rfl
  | 4, _ => rfl
  | 5, _ => rfl
  | 6, _ => rfl
  | 7, _ => rfl
  | 8, _ => rfl
  | 9, _ => rfl
  | 10, _ => rfl
  | 11, _ => rfl
theorem z_cell_20 {cA : Nat → ClassId} {A : Nat → Value} {base : Nat} {σ : ZM} {r : Nat} (h : z_kd σ r = 20) : z_cell cA A base σ r = .inl (cA 0, z_ln σ r, .inl (z_i σ r)) := by
  unfold z_cell; rw [h]; rfl
theorem z_cell_21 {cA : Nat → ClassId} {A : Nat → Value} {base : Nat} {σ : ZM} {r : Nat} (h : z_kd σ r = 21) : z_cell cA A base σ r = .inl (cA 1, z_ln σ r, .inl (z_i σ r)) := by
  unfold z_cell; rw [h]; rfl
theorem z_cell_22 {cA : Nat → ClassId} {A : Nat → Value} {base : Nat} {σ : ZM} {r : Nat} (h : z_kd σ r = 22) : z_cell cA A base σ r = .inl (cA 2, z_ln σ r, .inl (z_i σ r)) := by
  unfold z_cell; rw [h]; rfl
theorem z_cell_23 {cA : Nat → ClassId} {A : Nat → Value} {base : Nat} {σ : ZM} {r : Nat} (h : z_kd σ r = 23) : z_cell cA A base σ r = .inl (cA 3, z_ln σ r, .inr (.inl (z_l σ r))) := by
  unfold z_cell; rw [h]; rfl
theorem z_cell_24 {cA : Nat → ClassId} {A : Nat → Value} {base : Nat} {σ : ZM} {r : Nat} (h : z_kd σ r = 24) : z_cell cA A base σ r = .inl (cA 4, z_ln σ r, .inr (.inr (.inr (.inr (fun j => z_o base (z_r σ r j)))))) := by
  unfold z_cell; rw [h]; rfl
theorem z_fs_get {A : Nat → Value} {σ : ZM} {r i k : Nat} (hk : k < z_nf i) : (z_fs A σ r i)[k]? = some (z_fv A σ r k (z_so i k)) := by
  unfold z_fs
  rw [List.getElem?_map, List.getElem?_range hk]; rfl
theorem z_fs_len {A : Nat → Value} {σ : ZM} {r i : Nat} : (z_fs A σ r i).length = z_nf i := by simp [z_fs]
theorem z_fs_set {A : Nat → Value} {σ τ : ZM} {r i k : Nat} {v : Value} (hv : z_fv A τ r k (z_so i k) = v) (ho : ∀ j, j ≠ k → ∀ so, z_fv A τ r j so = z_fv A σ r j so) : (z_fs A σ r i).set k v = z_fs A τ r i := by
  apply List.ext_getElem?
  intro j
  rw [List.getElem?_set]
  by_cases hj : j < z_nf i
  · rw [z_fs_get hj, z_fs_get hj]
    by_cases e : k = j
    · subst e
      rw [if_pos rfl, if_pos (by rw [z_fs_len]; exact hj), hv]
    · rw [if_neg e, ho j (fun h => e h.symm)]
  · have h1 : (z_fs A σ r i)[j]? = none := List.getElem?_eq_none (by rw [z_fs_len]; omega)
    have h2 : (z_fs A τ r i)[j]? = none := List.getElem?_eq_none (by rw [z_fs_len]; omega)
    rw [h2]
    by_cases e : k = j
    · subst e
      rw [if_pos rfl, if_neg (by rw [z_fs_len]; exact hj)]
    · rw [if_neg e, h1]
/-- a cell of a kind that old cells don't have is a new one -/
theorem z_fresh {O σ : ZM} {r : Nat} (hu : z_pu O σ) (hO : z_pO O) (h0 : z_kd σ r ≠ 0) (h1 : z_kd σ r ≠ 20) (h2 : z_kd σ r ≠ 21) (h3 : z_kd σ r ≠ 13) : 10 ≤ r ∧ r < z_sz σ := by
  refine ⟨?_, hu.2.1 r h0⟩
  rcases Nat.lt_or_ge r 10 with h | h
  · have e := (hu.2.2.1 r h).1
    rcases hO r h with q | q | q | q <;> (rw [q] at e; first | exact absurd e h0 | exact absurd e h1 | exact absurd e h2 | exact absurd e h3)
  · exact h
theorem z_Wsz {p : Program} {l : Launch} {e : Env} {R : Room} {s : State} {m : MethodId} {args : Array Value} {below : List Frame} {meth : Method} {c : Code} {Q : State → Prop} {H : Heap} {locs : List Loc} {cells slots : Nat} {g : JFrame} (k : H.size ≤ s.heap.size + cells → W p l e R s m args below meth c H locs cells slots Q g) : W p l e R s m args below meth c H locs cells slots Q g := by
  intro T hT X
  exact k (by rw [← hT]; exact X.same.2.2.1) T hT X
section ZROWS2
variable {p : Program} {l : Launch} {e : Env} {R : Room} {s : State} {m : MethodId} {args : Array Value} {below : List Frame} {meth : Method} {c : Code} {Q : State → Prop} {cc : ByteArray} {own : String} {nL : Nat} {D : va_G} {cA : Nat → ClassId} {O : ZM} {A : Nat → Value} {base n0 w0 : Nat} {pc : Nat} {L : ZL} {S : List ZV} {σ : ZM}
theorem z_addr {q : Nat} {x : va_E} {H1 : Heap} (h10 : 10 ≤ z_sz σ) (hP : va_P D vwCl (z_ws cA A base σ ++ [(q, x)]) H1) (hD : va_D (z_B base) (z_ws cA A base σ ++ [(q, x)])) (hz : H1.size ≤ base + (z_sz σ - 10) + 1) : q = base + (z_sz σ - 10) := by
  have e : (z_ws cA A base σ ++ [(q, x)])[z_sz σ - 10]? = some (q, x) := by
    rw [List.getElem?_append_right (by rw [z_ws_len]; omega), z_ws_len, Nat.sub_self]; rfl
  have h1 : q < H1.size := (hP _ _ e).lt
  have h2 : base ≤ q := hD.2 _ _ e
  rcases Nat.lt_or_ge q (base + (z_sz σ - 10)) with h | h
  · exfalso
    have hl : q - base < z_sz σ - 10 := by omega
    have e2 : (z_ws cA A base σ ++ [(q, x)])[q - base]? = some (base + (q - base), z_cell cA A base σ (10 + (q - base))) := by
      rw [List.getElem?_append_left (by rw [z_ws_len]; exact hl)]
      unfold z_ws
      rw [List.getElem?_map, List.getElem?_range hl]; rfl
    have := hD.1 _ _ _ _ e e2 (by show q = base + (q - base); omega)
    omega
  · omega
/-- getfield of a cell that was made -/
theorem z_s_getf (X : z_C p s m args c cc own nL D cA O A base n0) {idx i k r : Nat} (hi : i < 12) (hk : k < z_nf i) (hr : z_kd σ r = i + 1) (hlink : Cond.fieldLink own idx (z_T i k).1 (z_T i k).2.1 (z_T i k).2.2.1 ∈ z_tb) (hd : decode cc pc = .ok (.getfield idx, 3)) {v : ZV} (hv : z_cv A v = z_fv A σ r k (z_so i k)) (w : z_W p l e R s m args below meth c Q D cA O A base n0 w0 nL (pc + 3) L (v :: S) σ) : z_W p l e R s m args below meth c Q D cA O A base n0 w0 nL pc L (vr r :: S) σ := by
  intro H locs ls hP hu hS hl hn hw
  obtain ⟨h1, h2⟩ := z_fresh (r := r) hu X.2.2.2.2.2.2.2 (by omega) (by omega) (by omega) (by omega)
  have w' := w H locs ls hP hu hS hl hn hw
  rw [show (v :: S).map (z_cv A) = z_cv A v :: S.map (z_cv A) from rfl, hv] at w'
  rw [show (vr r :: S).map (z_cv A) = A r :: S.map (z_cv A) from rfl, X.2.2.2.2.1 r h1]
  have he : (z_ws cA A base σ)[r - 10]? = some (base + (r - 10), .inr (i, z_fs A σ r i)) := by rw [z_ws_at h1 h2, z_cell_obj hi hr]
  exact va_get X.1.1 X.1.2.1 (fun w h => X.1.2.2.2.2 w h) (fun w h => z_tb_in (z_all_in hi w h) (z_uw w hi h)) X.1.2.2.2.1 X.2.1.1 hP (r - 10) he (z_cl hi) k hk (X.1.2.2.2.2 _ hlink) (fun x h => h) (z_fs_get hk) hd w'
theorem z_s_getS (X : z_C p s m args c cc own nL D cA O A base n0) {idx k r : Nat} {n d : String} (hr : z_kd σ r = 13) (hn0 : (n = "value" ∧ d = "[B") ∨ (n = "coder" ∧ d = "B")) (hlink : Cond.fieldLink own idx "java/lang/String" n d ∈ z_tb) (hd : decode cc pc = .ok (.getfield idx, 3)) {v : ZV} (hv : v = if n = "value" then vr (z_r σ r 0) else vi (z_i σ r 1)) (w : z_W p l e R s m args below meth c Q D cA O A base n0 w0 nL (pc + 3) L (v :: S) σ) : z_W p l e R s m args below meth c Q D cA O A base n0 w0 nL pc L (vr r :: S) σ := by
  intro H locs ls hP hu hS hl hn hw
  have hlt : r < 10 ∨ 10 ≤ r := Nat.lt_or_ge r 10
  rcases hlt with h10 | h10
  · have eO := hu.2.2.1 r h10
    have hO : z_kd O r = 13 := by rw [← eO.1]; exact hr
    obtain ⟨a, ha, -, -, h3⟩ := X.2.1.2.2.2.2.2.2.2.2.2 r h10 (by rw [hO]; decide)
    obtain ⟨h4, h5, h6⟩ := h3 hO
    have w' := w H locs ls hP hu hS hl hn hw
    rw [show (vr r :: S).map (z_cv A) = A r :: S.map (z_cv A) from rfl, ha]
    rcases hn0 with ⟨rfl, rfl⟩ | ⟨rfl, rfl⟩
    · rw [if_pos rfl] at hv
      subst hv
      refine vk_getf X.1.1 X.1.2.1 h6 hS X.1.2.2.2.1 (X.1.2.2.2.2 _ hlink) (fun x h => h) hd ?_
      rw [← (eO.2.2 0).2]
      exact w'
    · rw [if_neg (by decide)] at hv
      subst hv
      refine vk_getf X.1.1 X.1.2.1 h5 hS X.1.2.2.2.1 (X.1.2.2.2.2 _ hlink) (fun x h => h) hd ?_
      rw [← (eO.2.2 1).1]
      exact w'
  · exact absurd hr (hu.2.2.2.1 r h10)
end ZROWS2

/-! fields that are written, rows of arrays -/
def z_tyS (t : FieldType) : Nat := match t with
  | .int => 0
  | .boolean => 1
  | .long => 2
  | .object _ => 3
  | .array _ => 3
  | _ => 9
theorem z_tz0 : ∀ k, k < z_nf 0 → z_tyS (z_ty 0 k) = z_so 0 k := by decide +kernel
theorem z_tz1 : ∀ k, k < z_nf 1 → z_tyS (z_ty 1 k) = z_so 1 k := by decide +kernel
theorem z_tz2 : ∀ k, k < z_nf 2 → z_tyS (z_ty 2 k) = z_so 2 k := by decide +kernel
theorem z_tz3 : ∀ k, k < z_nf 3 → z_tyS (z_ty 3 k) = z_so 3 k := by decide +kernel
theorem z_tz4 : ∀ k, k < z_nf 4 → z_tyS (z_ty 4 k) = z_so 4 k := by decide +kernel
theorem z_tz5 : ∀ k, k < z_nf 5 → z_tyS (z_ty 5 k) = z_so 5 k := by decide +kernel
theorem z_tz6 : ∀ k, k < z_nf 6 → z_tyS (z_ty 6 k) = z_so 6 k := by decide +kernel
theorem z_tz7 : ∀ k, k < z_nf 7 → z_tyS (z_ty 7 k) = z_so 7 k := by decide +kernel
theorem z_tz8 : ∀ k, k < z_nf 8 → z_tyS (z_ty 8 k) = z_so 8 k := by decide +kernel
theorem z_tz9 : ∀ k, k < z_nf 9 → z_tyS (z_ty 9 k) = z_so 9 k := by decide +kernel
theorem z_tz10 : ∀ k, k < z_nf 10 → z_tyS (z_ty 10 k) = z_so 10 k := by decide +kernel
theorem z_tz11 : ∀ k, k < z_nf 11 → z_tyS (z_ty 11 k) = z_so 11 k := by decide +kernel
theorem z_tys_all {i : Nat} (hi : i < 12) : ∀ k, k < z_nf i → z_tyS (z_ty i k) = z_so i k := by
  match i, hi with
  | 0, _ => exact z_tz0
  | 1, _ => exact z_tz1
  | 2, _ => exact z_tz2
  | 3, _ => exact z_tz3
  | 4, _ => exact z_tz4
  | 5, _ => exact z_tz5
  | 6, _ => exact z_tz6
  | 7, _ => exact z_tz7
  | 8, _ => exact z_tz8
  | 9, _ => exact z_tz9
  | 10, _ => exact z_tz10
  | 11, _ => exact z_tz11
theorem z_tys_ok {i k : Nat} (hi : i < 12) (hk : k < z_nf i) : (z_so i k = 0 → z_ty i k = .int) ∧ (z_so i k = 1 → z_ty i k = .boolean) ∧ (z_so i k = 2 → z_ty i k = .long) ∧ (z_so i k = 3 → (∃ n, z_ty i k = .object n) ∨ ∃ t, z_ty i k = .array t) := by
  rw [← z_tys_all hi k hk]
  cases h : z_ty i k <;> simp [z_tyS]
/-- a value that a field of this sort may hold -/
def z_vok (so : Nat) (v : ZV) : Prop := match so with
  | 0 => ∃ x, v = vi x
  | 1 => ∃ x, v = vi x ∧ (x = 0 ∨ x = 1)
  | 2 => ∃ x, v = vl x
  | 3 => ∃ x, v = vr x
  | _ => False
section ZROWS3
variable {p : Program} {l : Launch} {e : Env} {R : Room} {s : State} {m : MethodId} {args : Array Value} {below : List Frame} {meth : Method} {c : Code} {Q : State → Prop} {cc : ByteArray} {own : String} {nL : Nat} {D : va_G} {cA : Nat → ClassId} {O : ZM} {A : Nat → Value} {base n0 w0 : Nat} {pc : Nat} {L : ZL} {S : List ZV} {σ : ZM}
/-- behind a write to one made cell -/
theorem z_after {τ : ZM} {r : Nat} {H1 : Heap} {x : va_E} (h : 10 ≤ r) (hs : z_sz τ = z_sz σ) (hx : x = z_cell cA A base τ r) (ho : ∀ q, q ≠ r → z_cell cA A base τ q = z_cell cA A base σ q) (hP : va_P D vwCl ((z_ws cA A base σ).set (r - 10) (base + (r - 10), x)) H1) : va_P D vwCl (z_ws cA A base τ) H1 := by
  rw [hx, z_ws_set h hs ho] at hP
  exact hP
theorem z_fits {i k : Nat} (hi : i < 12) (hk : k < z_nf i) {v : ZV} {A : Nat → Value} (hA : ∀ r, A r = .null ∨ ∃ a, A r = .ref a) (hv : z_vok (z_so i k) v) : narrow (z_ty i k) (z_cv A v) = z_cv A v ∧ fits (z_ty i k) (z_cv A v) = true := by
  obtain ⟨t0, t1, t2, t3⟩ := z_tys_ok hi hk
  unfold z_vok at hv
  split at hv
  · rename_i e; obtain ⟨x, rfl⟩ := hv
    rw [t0 e]; exact ⟨rfl, rfl⟩
  · rename_i e; obtain ⟨x, rfl, hx⟩ := hv
    rw [t1 e]; rcases hx with rfl | rfl <;> exact ⟨rfl, rfl⟩
  · rename_i e; obtain ⟨x, rfl⟩ := hv
    rw [t2 e]; exact ⟨rfl, rfl⟩
  · rename_i e; obtain ⟨x, rfl⟩ := hv
    show narrow _ (A x) = A x ∧ fits _ (A x) = true
    rcases t3 e with ⟨n, h⟩ | ⟨t, h⟩ <;> rw [h] <;> rcases hA x with q | ⟨a, q⟩ <;> rw [q] <;> exact ⟨rfl, rfl⟩
  · exact hv.elim
theorem z_s_put (X : z_C p s m args c cc own nL D cA O A base n0) {idx i k r : Nat} {v : ZV} {τ : ZM} (hi : i < 12) (hk : k < z_nf i) (hr : z_kd σ r = i + 1) (hfin : (z_T i k).2.2.2 = false ∨ ((z_T i k).2.2.2 = true ∧ meth.name = "<init>" ∧ (z_T i k).1 = own)) (hlink : Cond.fieldLink own idx (z_T i k).1 (z_T i k).2.1 (z_T i k).2.2.1 ∈ z_tb) (hd : decode cc pc = .ok (.putfield idx, 3))
    (hv : z_vok (z_so i k) v)
    (hkd : z_kd τ r = z_kd σ r) (hsz : z_sz τ = z_sz σ) (hsw : z_sw τ = z_sw σ) (hval : z_fv A τ r k (z_so i k) = z_cv A v) (hoth : ∀ j, j ≠ k → ∀ so, z_fv A τ r j so = z_fv A σ r j so) (hcel : ∀ q, q ≠ r → z_cell cA A base τ q = z_cell cA A base σ q) (hpu : z_pu O σ → 10 ≤ r → z_pu O τ)
    (w : z_W p l e R s m args below meth c Q D cA O A base n0 w0 nL (pc + 3) L S τ) : z_W p l e R s m args below meth c Q D cA O A base n0 w0 nL pc L (v :: vr r :: S) σ := by
  intro H locs ls hP hu hS hl hn hw
  obtain ⟨h1, h2⟩ := z_fresh (r := r) hu X.2.2.2.2.2.2.2 (by omega) (by omega) (by omega) (by omega)
  rw [show (v :: vr r :: S).map (z_cv A) = z_cv A v :: A r :: S.map (z_cv A) from rfl, X.2.2.2.2.1 r h1]
  have he : (z_ws cA A base σ)[r - 10]? = some (base + (r - 10), .inr (i, z_fs A σ r i)) := by rw [z_ws_at h1 h2, z_cell_obj hi hr]
  obtain ⟨f1, f2⟩ := z_fits hi hk X.2.2.1 hv
  have fin : ∀ (H1 : Heap) (locs1 : List Loc), va_P D vwCl ((z_ws cA A base σ).set (r - 10) (base + (r - 10), .inr (i, (z_fs A σ r i).set k (z_cv A v)))) H1 → va_S (z_B base) s.heap H1 locs1 → W p l e R s m args below meth c H1 locs1 (z_sz σ - n0) (z_sw σ - w0) Q (F0 m (pc + 3) ls (S.map (z_cv A))) := by
    intro H1 locs1 hP1 hS1
    have hP2 := z_after (τ := τ) h1 hsz (by rw [z_cell_obj hi (by rw [hkd]; exact hr), z_fs_set hval hoth]) hcel hP1
    have w' := w H1 locs1 ls hP2 (hpu hu h1) hS1 hl (by rw [hsz]; exact hn) (by rw [hsw]; exact hw)
    rw [hsz, hsw] at w'
    exact w'
  rcases hfin with hf | ⟨hf, hin, hdc⟩
  · exact va_put X.1.1 X.1.2.1 (fun w h => X.1.2.2.2.2 w h) (fun w h => z_tb_in (z_all_in hi w h) (z_uw w hi h)) (z_ty i) (z_all_ty hi) (z_all_nm hi) X.1.2.2.2.1 X.2.1.1 hP (z_ws_D (fun q h => h)) hS (r - 10) he (z_cl hi) k hk (X.1.2.2.2.2 _ hlink) (fun x h => h) hf (z_all_ty hi k hk) f1 f2 (by rw [z_fs_len]; exact hk) hd (fun H1 locs1 q1 _ q3 => fin H1 locs1 q1 q3)
  · exact va_putF X.1.1 X.1.2.1 (fun w h => X.1.2.2.2.2 w h) (fun w h => z_tb_in (z_all_in hi w h) (z_uw w hi h)) (z_ty i) (z_all_ty hi) (z_all_nm hi) X.1.2.2.2.1 X.2.1.1 hP (z_ws_D (fun q h => h)) hS (r - 10) he (z_cl hi) k hk (X.1.2.2.2.2 _ hlink) (fun x h => h) hf hin hdc (z_all_ty hi k hk) f1 f2 (by rw [z_fs_len]; exact hk) hd (fun H1 locs1 q1 _ q3 => fin H1 locs1 q1 q3)
theorem z_s_iald (X : z_C p s m args c cc own nL D cA O A base n0) {r : Nat} {i : Int32} (ha : z_at σ r 20 i = true) (hd : decode cc pc = .ok (.iaload, 1)) (w : z_W p l e R s m args below meth c Q D cA O A base n0 w0 nL (pc + 1) L (vi (z_i σ r i.toNatClampNeg) :: S) σ) : z_W p l e R s m args below meth c Q D cA O A base n0 w0 nL pc L (vi i :: vr r :: S) σ := by
  intro H locs ls hP hu hS hl hn hw
  obtain ⟨hk, hi⟩ := z_at_kd ha
  have hin := z_ix_in hi
  have w' := w H locs ls hP hu hS hl hn hw
  rw [show (vi i :: vr r :: S).map (z_cv A) = .int i :: A r :: S.map (z_cv A) from rfl]
  rcases Nat.lt_or_ge r 10 with h10 | h10
  · have eO := hu.2.2.1 r h10
    have hO : z_kd O r = 20 := by rw [← eO.1]; exact hk
    obtain ⟨a, ha, h2, -, -⟩ := X.2.1.2.2.2.2.2.2.2.2.2 r h10 (by rw [hO]; decide)
    rw [ha]
    exact va_ti X.1.1 X.1.2.1 (h2 hO) hS (by rw [← eO.2.1]; exact hin) (by rw [← (eO.2.2 _).1]; rfl) hd w'
  · have h2 : r < z_sz σ := hu.2.1 r (by omega)
    rw [X.2.2.2.2.1 r h10]
    exact va_iald X.1.1 X.1.2.1 X.2.1.1 hP (r - 10) 0 (by rw [z_ws_at h10 h2, z_cell_20 hk]) rfl hin hd w'
theorem z_s_bald (X : z_C p s m args c cc own nL D cA O A base n0) {r : Nat} {i : Int32} (ha : (z_at σ r 21 i || z_at σ r 22 i) = true) (hd : decode cc pc = .ok (.baload, 1)) (w : z_W p l e R s m args below meth c Q D cA O A base n0 w0 nL (pc + 1) L (vi (z_i σ r i.toNatClampNeg) :: S) σ) : z_W p l e R s m args below meth c Q D cA O A base n0 w0 nL pc L (vi i :: vr r :: S) σ := by
  intro H locs ls hP hu hS hl hn hw
  have w' := w H locs ls hP hu hS hl hn hw
  rw [show (vi i :: vr r :: S).map (z_cv A) = .int i :: A r :: S.map (z_cv A) from rfl]
  rw [Bool.or_eq_true] at ha
  rcases ha with ha | ha
  · obtain ⟨hk, hi⟩ := z_at_kd ha
    have hin := z_ix_in hi
    rcases Nat.lt_or_ge r 10 with h10 | h10
    · have eO := hu.2.2.1 r h10
      have hO : z_kd O r = 21 := by rw [← eO.1]; exact hk
      obtain ⟨a, ha, -, h2, -⟩ := X.2.1.2.2.2.2.2.2.2.2.2 r h10 (by rw [hO]; decide)
      rw [ha]
      exact va_tb X.1.1 X.1.2.1 (h2 hO) hS (by rw [← eO.2.1]; exact hin) (by rw [← (eO.2.2 _).1]; rfl) hd w'
    · have h2 : r < z_sz σ := hu.2.1 r (by omega)
      rw [X.2.2.2.2.1 r h10]
      exact va_bald X.1.1 X.1.2.1 X.2.1.1 hP (r - 10) 1 (by rw [z_ws_at h10 h2, z_cell_21 hk]) rfl hin hd w'
  · obtain ⟨hk, hi⟩ := z_at_kd ha
    have hin := z_ix_in hi
    obtain ⟨h10, h2⟩ := z_fresh (r := r) hu X.2.2.2.2.2.2.2 (by omega) (by omega) (by omega) (by omega)
    rw [X.2.2.2.2.1 r h10]
    exact va_zald X.1.1 X.1.2.1 X.2.1.1 hP (r - 10) 2 (by rw [z_ws_at h10 h2, z_cell_22 hk]) rfl hin hd w'
theorem z_s_lald (X : z_C p s m args c cc own nL D cA O A base n0) {r : Nat} {i : Int32} (ha : z_at σ r 23 i = true) (hd : decode cc pc = .ok (.laload, 1)) (w : z_W p l e R s m args below meth c Q D cA O A base n0 w0 nL (pc + 1) L (vl (z_l σ r i.toNatClampNeg) :: S) σ) : z_W p l e R s m args below meth c Q D cA O A base n0 w0 nL pc L (vi i :: vr r :: S) σ := by
  intro H locs ls hP hu hS hl hn hw
  obtain ⟨hk, hi⟩ := z_at_kd ha
  have hin := z_ix_in hi
  have w' := w H locs ls hP hu hS hl hn hw
  rw [show (vi i :: vr r :: S).map (z_cv A) = .int i :: A r :: S.map (z_cv A) from rfl]
  obtain ⟨h10, h2⟩ := z_fresh (r := r) hu X.2.2.2.2.2.2.2 (by omega) (by omega) (by omega) (by omega)
  rw [X.2.2.2.2.1 r h10]
  exact va_lald X.1.1 X.1.2.1 X.2.1.1 hP (r - 10) 3 (by rw [z_ws_at h10 h2, z_cell_23 hk]) rfl hin hd w'
theorem z_s_alen (X : z_C p s m args c cc own nL D cA O A base n0) {r : Nat} (ha : Nat.ble 20 (z_kd σ r) = true) (h24 : z_kd σ r ≤ 24) (hd : decode cc pc = .ok (.arraylength, 1)) (w : z_W p l e R s m args below meth c Q D cA O A base n0 w0 nL (pc + 1) L (vi (nI (z_ln σ r)) :: S) σ) : z_W p l e R s m args below meth c Q D cA O A base n0 w0 nL pc L (vr r :: S) σ := by
  intro H locs ls hP hu hS hl hn hw
  have ha := Nat.le_of_ble_eq_true ha
  have w' := w H locs ls hP hu hS hl hn hw
  rw [show (vr r :: S).map (z_cv A) = A r :: S.map (z_cv A) from rfl]
  rcases Nat.lt_or_ge r 10 with h10 | h10
  · have eO := hu.2.2.1 r h10
    obtain ⟨a, ha2, h2, h3, -⟩ := X.2.1.2.2.2.2.2.2.2.2.2 r h10 (by rw [← eO.1]; omega)
    rw [ha2]
    rcases X.2.2.2.2.2.2.2 r h10 with q | q | q | q
    · rw [← eO.1] at q; omega
    · exact va_tlen X.1.1 X.1.2.1 (h2 q) hS (by rw [← eO.2.1]; rfl) hd w'
    · exact va_tlen X.1.1 X.1.2.1 (h3 q) hS (by rw [← eO.2.1]; rfl) hd w'
    · rw [← eO.1] at q; omega
  · have h2 : r < z_sz σ := hu.2.1 r (by omega)
    rw [X.2.2.2.2.1 r h10]
    rcases (show z_kd σ r = 20 ∨ z_kd σ r = 21 ∨ z_kd σ r = 22 ∨ z_kd σ r = 23 ∨ z_kd σ r = 24 by omega) with q | q | q | q | q
    · exact va_alen X.1.1 X.1.2.1 X.2.1.1 hP (r - 10) 0 (x := (z_ln σ r, .inl (z_i σ r))) (by rw [z_ws_at h10 h2, z_cell_20 q]) rfl rfl hd w'
    · exact va_alen X.1.1 X.1.2.1 X.2.1.1 hP (r - 10) 1 (x := (z_ln σ r, .inl (z_i σ r))) (by rw [z_ws_at h10 h2, z_cell_21 q]) rfl rfl hd w'
    · exact va_alen X.1.1 X.1.2.1 X.2.1.1 hP (r - 10) 2 (x := (z_ln σ r, .inl (z_i σ r))) (by rw [z_ws_at h10 h2, z_cell_22 q]) rfl rfl hd w'
    · exact va_alen X.1.1 X.1.2.1 X.2.1.1 hP (r - 10) 3 (x := (z_ln σ r, .inr (.inl (z_l σ r)))) (by rw [z_ws_at h10 h2, z_cell_23 q]) rfl rfl hd w'
    · exact va_alen X.1.1 X.1.2.1 X.2.1.1 hP (r - 10) 4 (x := (z_ln σ r, .inr (.inr (.inr (.inr (fun j => z_o base (z_r σ r j))))))) (by rw [z_ws_at h10 h2, z_cell_24 q]) rfl rfl hd w'
theorem z_s_iast (X : z_C p s m args c cc own nL D cA O A base n0) {r : Nat} {i x : Int32} (ha : z_at σ r 20 i = true) (h10 : 10 ≤ r) (hd : decode cc pc = .ok (.iastore, 1)) (w : z_W p l e R s m args below meth c Q D cA O A base n0 w0 nL (pc + 1) L S (z_ui σ r i.toNatClampNeg x)) : z_W p l e R s m args below meth c Q D cA O A base n0 w0 nL pc L (vi x :: vi i :: vr r :: S) σ := by
  intro H locs ls hP hu hS hl hn hw
  obtain ⟨hk, hi⟩ := z_at_kd ha
  have hin := z_ix_in hi
  have h2 : r < z_sz σ := hu.2.1 r (by omega)
  rw [show (vi x :: vi i :: vr r :: S).map (z_cv A) = .int x :: .int i :: A r :: S.map (z_cv A) from rfl, X.2.2.2.2.1 r h10]
  refine va_iast X.1.1 X.1.2.1 X.2.1.1 hP (z_ws_D (fun q h => h)) hS (r - 10) 0 (by rw [z_ws_at h10 h2, z_cell_20 hk]) rfl hin hd (fun H1 locs1 q1 _ q3 => ?_)
  refine w H1 locs1 ls (z_after (σ := σ) (τ := z_ui σ r i.toNatClampNeg x) h10 rfl ?_ (fun q hq => z_cell_ui hq) q1) (z_pu_ui hu h10) q3 hl hn hw
  rw [z_cell_20 (by rw [z_kd_ui]; exact hk)]
  have e : z_i (z_ui σ r i.toNatClampNeg x) r = upd (z_i σ r) i.toNatClampNeg x := by
    funext j; rw [z_i_ui]; unfold upd; simp
  rw [e, z_ln_ui]
theorem z_s_bast (X : z_C p s m args c cc own nL D cA O A base n0) {r : Nat} {i x : Int32} (ha : (z_at σ r 21 i || z_at σ r 22 i) = true) (h10 : 10 ≤ r) (hd : decode cc pc = .ok (.bastore, 1)) (w : z_W p l e R s m args below meth c Q D cA O A base n0 w0 nL (pc + 1) L S (z_ui σ r i.toNatClampNeg (z_bv σ r x))) : z_W p l e R s m args below meth c Q D cA O A base n0 w0 nL pc L (vi x :: vi i :: vr r :: S) σ := by
  intro H locs ls hP hu hS hl hn hw
  rw [show (vi x :: vi i :: vr r :: S).map (z_cv A) = .int x :: .int i :: A r :: S.map (z_cv A) from rfl, X.2.2.2.2.1 r h10]
  have e : ∀ y, z_i (z_ui σ r i.toNatClampNeg y) r = upd (z_i σ r) i.toNatClampNeg y := by
    intro y; funext j; rw [z_i_ui]; unfold upd; simp
  rw [Bool.or_eq_true] at ha
  rcases ha with ha | ha
  · obtain ⟨hk, hi⟩ := z_at_kd ha
    have h2 : r < z_sz σ := hu.2.1 r (by omega)
    refine va_bast X.1.1 X.1.2.1 X.2.1.1 hP (z_ws_D (fun q h => h)) hS (r - 10) 1 (by rw [z_ws_at h10 h2, z_cell_21 hk]) rfl (z_ix_in hi) hd (fun H1 locs1 q1 _ q3 => ?_)
    refine w H1 locs1 ls (z_after (σ := σ) (τ := z_ui σ r i.toNatClampNeg (z_bv σ r x)) h10 rfl ?_ (fun q hq => z_cell_ui hq) q1) (z_pu_ui hu h10) q3 hl hn hw
    rw [z_cell_21 (by rw [z_kd_ui]; exact hk), e, z_ln_ui, vp_nar_byte]
    unfold z_bv; rw [if_pos hk]
  · obtain ⟨hk, hi⟩ := z_at_kd ha
    have h2 : r < z_sz σ := hu.2.1 r (by omega)
    refine va_zast X.1.1 X.1.2.1 X.2.1.1 hP (z_ws_D (fun q h => h)) hS (r - 10) 2 (by rw [z_ws_at h10 h2, z_cell_22 hk]) rfl (z_ix_in hi) hd (fun H1 locs1 q1 _ q3 => ?_)
    refine w H1 locs1 ls (z_after (σ := σ) (τ := z_ui σ r i.toNatClampNeg (z_bv σ r x)) h10 rfl ?_ (fun q hq => z_cell_ui hq) q1) (z_pu_ui hu h10) q3 hl hn hw
    rw [z_cell_22 (by rw [z_kd_ui]; exact hk), e, z_ln_ui]
    unfold z_bv; rw [if_neg (by omega)]; rfl
theorem z_s_last (X : z_C p s m args c cc own nL D cA O A base n0) {r : Nat} {i : Int32} {x : Int64} (ha : z_at σ r 23 i = true) (hd : decode cc pc = .ok (.lastore, 1)) (w : z_W p l e R s m args below meth c Q D cA O A base n0 w0 nL (pc + 1) L S (z_ul σ r i.toNatClampNeg x)) : z_W p l e R s m args below meth c Q D cA O A base n0 w0 nL pc L (vl x :: vi i :: vr r :: S) σ := by
  intro H locs ls hP hu hS hl hn hw
  obtain ⟨hk, hi⟩ := z_at_kd ha
  have hin := z_ix_in hi
  obtain ⟨h10, h2⟩ := z_fresh (r := r) hu X.2.2.2.2.2.2.2 (by omega) (by omega) (by omega) (by omega)
  rw [show (vl x :: vi i :: vr r :: S).map (z_cv A) = .long x :: .int i :: A r :: S.map (z_cv A) from rfl, X.2.2.2.2.1 r h10]
  refine va_last X.1.1 X.1.2.1 X.2.1.1 hP (z_ws_D (fun q h => h)) hS (r - 10) 3 (by rw [z_ws_at h10 h2, z_cell_23 hk]) rfl hin hd (fun H1 locs1 q1 _ q3 => ?_)
  refine w H1 locs1 ls (z_after (σ := σ) (τ := z_ul σ r i.toNatClampNeg x) h10 rfl ?_ (fun q hq => z_cell_ul hq) q1) (z_pu_ul hu) q3 hl hn hw
  rw [z_cell_23 (by rw [z_kd_ul]; exact hk)]
  have e : z_l (z_ul σ r i.toNatClampNeg x) r = vp_updL (z_l σ r) i.toNatClampNeg x := by
    funext j; rw [z_l_ul]; unfold vp_updL; simp
  rw [e, z_ln_ul]
end ZROWS3
